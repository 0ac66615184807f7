/** Edges of the stair and of its climbers: terms 0 and 1, promises 1 to 11. */
final class StairEdges {
    private final Edges e;

    StairEdges(Edges e) {
        this.e = e;
    }

    void all() {
        errors();
        order();
        quotients();
        ring();
        rises();
        none();
        climbers();
        promise1();
        build();
        rise();
        stepIs();
        hide();
        climber();
        climberIs();
        become();
        as();
        carry();
        height();
    }

    // ---- terms 0

    private void errors() {
        e.terms(0, "ERRORS are answers below -1000000000");
        UpAllRound x = Make.with(0, 0);
        e.are("each", x.rise(8, 0), -1000000001, x.body(0), -1000000002, x.build(8), -1000000003, x.as(0, 1), -1000000005,
            x.voice(0, 3, 1), -1000000006);
        for (int i = 0; i < 24; i++) {
            x.tell(i);
        }
        e.is("full", x.tell(24), -1000000004);
        for (int k = 1; k <= 6; k++) {
            e.is("told of " + k, x.told(k), 1);
        }
        e.takes(1, UpAllRound::new, "seed", Edges.LOW);
        UpAllRound y = new UpAllRound();
        y.seed(Edges.LOW - 1);
        e.are("what only looks like an ERROR", y.count(8), -1000000001, y.seed(0), -1000000001, y.told(1), 0);
    }

    private void order() {
        e.terms(0, "in the order in which they are asked; one that answers an ERROR changes nothing");
        e.refuses(Edges.BEYOND, Rich::full, "build", 15);
        e.refuses(Edges.BEYOND, Rich::full, "climber", 70, 0);
        e.refuses(Edges.BEYOND, Rich::busy, "as", 4, 1);
        e.refuses(Edges.BEYOND, () -> Rich.taped(60), "feed", 0, 9);
        e.refuses(Edges.BEYOND, () -> Rich.late(0), "minutes", 201);
        e.refuses(Edges.BEYOND, () -> Rich.late(0), "loose", 41);
        e.refuses(Edges.BEYOND, Rich::busy, "suspects", 4, 3);
        e.refuses(Edges.STATE, Rich::busy, "sheet", 0, 8, -1);
        e.refuses(Edges.NONE, Rich::busy, "put", 3, -1, 0);
        e.refuses(Edges.NONE, Rich::busy, "move", 3, -1, 0, 0, 1);
        e.refuses(Edges.KIND, Rich::busy, "move", 0, -1, 1, 0, 1);
    }

    private void quotients() {
        e.terms(0, "Quotients are cut toward 0.");
        UpAllRound x = Make.with(2, 0, 30, 0);
        e.are("parts", x.voice(0, 3, 7), 3, x.voice(0, 3, -7), -3, x.voice(1, 3, 7), -7, x.voice(0, 3, 1), 0,
            x.voice(0, 3, -1), 0);
        e.are("a drunk swears", x.voice(1, 2, 7), (3 + 1) * 2, x.voice(1, 2, -7), (-3 + 1) * 2, x.voice(1, 2, -1), 2);
        e.are("a text", Make.gives("r/s", -7, 2, 0), -3, Make.gives("r/s", 7, -2, 0), -3, Make.gives("r/s", -7, -2, 0), 3,
            Make.gives("r/s", -1, 2, 0), 0);
    }

    // ---- terms 1

    private void ring() {
        e.terms(1, "THE STAIR is a ring of STEPS 0 .. n - 1 (n is 8 at first; 4 .. 14)");
        e.is("at first", new UpAllRound().count(1), 8);
        for (int n = 4; n <= 14; n++) {
            UpAllRound x = Make.on(n, 0, n - 1, 20, 0);
            x.minutes(1);
            e.are("above the last of " + n, x.climberIs(0, 2), 0, x.climberIs(1, 2), n - 1);
            UpAllRound far = Make.on(n, 69, n - 1, 58, 0);
            far.minutes(1);
            e.are("more than round", far.climberIs(0, 2), (n - 1 + 10) % n, far.climberIs(1, 2), (2 * n - 4) % n);
            e.is("a porter's round", x.lap(0, 0), n);
        }
        UpAllRound few = Make.on(4, 69, 1);
        few.minutes(1);
        e.are("ten steps on a ring of four", few.climberIs(0, 2), 3);
    }

    private void rises() {
        e.terms(1, "Each has a RISE (-9 .. 9; 1 at first)");
        UpAllRound x = new UpAllRound();
        for (int step = 0; step < 8; step++) {
            e.are("of step " + step, x.rise(step, -9), 1, x.rise(step, 9), -9, x.stepIs(step, 0), 9);
        }
        UpAllRound y = Make.with(0, 7, 20, 0);
        y.rise(7, 5);
        y.minutes(1);
        e.are("the last one's, up to the first one and down from it", y.climberIs(0, 3), 5, y.climberIs(1, 3), -5);
    }

    private void none() {
        e.terms(1, "One STEP may be NONE (at first no one is).");
        UpAllRound x = new UpAllRound();
        e.is("at first", x.count(3), -1);
        x.hide(0);
        x.hide(7);
        for (int step = 0; step < 8; step++) {
            e.is("step " + step, x.stepIs(step, 1), step == 7 ? 1 : 0);
        }
        x.hide(-1);
        e.are("no one again", x.stepIs(7, 1), 0, x.count(3), -1);
    }

    private void climbers() {
        e.terms(1, "CLIMBERS 0, 1, .. (at most 6)");
        UpAllRound x = new UpAllRound();
        for (int i = 0; i < 6; i++) {
            e.are("climber " + i, x.climber(10 * i + 9, 7), i, x.climberIs(i, 0), i, x.climberIs(i, 1), 9,
                x.climberIs(i, 2), 7, x.climberIs(i, 3), 0);
        }
        e.are("a seventh", x.climber(0, 0), Edges.LOW - Edges.FULL, x.count(0), 6, x.climberIs(6, 0), Edges.LOW - Edges.BEYOND);
        e.are("heights", x.height(5, 9999), 0, x.height(5, -9999), 9999, x.height(5, -10000), Edges.LOW - Edges.BEYOND,
            x.height(5, 10000), Edges.LOW - Edges.BEYOND, x.climberIs(5, 3), -9999);
    }

    // ---- promises

    private void promise1() {
        e.promise(1, "All as at first; eight STEPS, no CLIMBERS, no TEXTS.");
        UpAllRound x = new UpAllRound();
        int beyond = Edges.LOW - Edges.BEYOND;
        int none = Edges.LOW - Edges.NONE;
        e.are("told", x.told(1), 0, x.told(2), 0, x.told(3), 0, x.told(4), 0, x.told(5), 0, x.told(6), 0);
        e.are("counts", x.count(0), 0, x.count(1), 8, x.count(2), 0, x.count(3), -1, x.count(4), 0, x.count(5), 0,
            x.count(6), 0, x.count(7), 0, x.count(8), 1);
        for (int step = 0; step < 8; step++) {
            e.are("step " + step, x.stepIs(step, 0), 1, x.stepIs(step, 1), 0, x.stepIs(step, 2), 0);
        }
        e.are("none such", x.stepIs(8, 0), beyond, x.climberIs(0, 0), beyond, x.body(0), none, x.restore(), none);
        for (int sheet = 0; sheet < 4; sheet++) {
            e.are("sheet " + sheet, x.rises(sheet), none, x.judge(sheet), none);
        }
        e.are("texts", x.law(0, 7, 0, 0), 7, x.law(1, 0, 7, 0), 7, x.untell(0), 0, x.untell(1), 0);
        e.are("nothing waits", x.check(), 0, x.text(0), -10, x.image(), 1);
    }

    private void build() {
        e.promise(2, "THE STAIR has n STEPS, each of a RISE of 1, no one NONE: how many it had.");
        for (int n = 4; n <= 14; n++) {
            UpAllRound x = Rich.bare();
            e.are("build " + n, x.build(n), 6, x.count(1), n, x.count(3), -1, x.build(n), n);
            for (int step = 0; step < n; step++) {
                e.are("step " + step + " of " + n, x.stepIs(step, 0), 1, x.stepIs(step, 1), 0);
            }
            e.are("no more of " + n, x.stepIs(n, 0), Edges.LOW - Edges.BEYOND, x.count(2), 8, x.count(5), 3, x.count(6), 3);
        }
        e.takes(8, UpAllRound::new, "build", 4);
        e.promise(2, "BEYOND.");
        e.range(Rich::bare, "build", 0, 4, 14, 0);
        e.refuses(Edges.BEYOND, Rich::bare, "build", 0);
        e.refuses(Edges.BEYOND, Rich::busy, "build", 3);
        e.refuses(Edges.BEYOND, Rich::busy, "build", 15);
        e.promise(2, "STATE: there are CLIMBERS.");
        e.refuses(Edges.STATE, Rich::busy, "build", 4);
        e.refuses(Edges.STATE, Rich::full, "build", 6);
        e.refuses(Edges.STATE, () -> Make.with(0, 0), "build", 14);
        UpAllRound y = Rich.bare();
        y.climber(0, 0);
        y.restore();
        e.are("none again behind restore", y.build(14), 6, y.count(1), 14);
    }

    private void rise() {
        e.promise(3, "RISE of a STEP becomes v: what it was (any number).");
        UpAllRound x = Make.on(14);
        for (int step = 0; step < 14; step++) {
            e.are("step " + step, x.rise(step, 9), 1, x.rise(step, -9), 9, x.rise(step, step - 5), -9);
        }
        for (int step = 0; step < 14; step++) {
            e.is("step " + step + " then", x.stepIs(step, 0), step - 5);
        }
        e.promise(3, "BEYOND.");
        e.range(Rich::busy, "rise", 0, 0, 5, 0, 4);
        e.range(Rich::busy, "rise", 1, -9, 9, 5, 0);
        e.range(() -> Make.on(4, 0, 0), "rise", 0, 0, 3, 0, 4);
        e.range(() -> Make.on(14, 0, 0), "rise", 0, 0, 13, 0, 4);
        e.refuses(Edges.BEYOND, Rich::busy, "rise", 6, 10);
    }

    private void stepIs() {
        e.promise(4, "Of a STEP: 0 RISE (any number), 1 whether it is NONE, 2 how many are AT it.");
        UpAllRound x = Make.on(4, 0, 3, 0, 3, 0, 3, 0, 3, 0, 3, 0, 3);
        x.rise(3, -9);
        x.hide(3);
        e.are("all are at the last one", x.stepIs(3, 0), -9, x.stepIs(3, 1), 1, x.stepIs(3, 2), 6, x.stepIs(0, 0), 1,
            x.stepIs(0, 1), 0, x.stepIs(0, 2), 0);
        e.asks(2, Rich::busy, "stepIs", 0, 0);
        e.promise(4, "BEYOND.");
        e.range(Rich::busy, "stepIs", 0, 0, 5, 0, 0);
        e.range(Rich::busy, "stepIs", 0, 0, 5, 0, 2);
        e.range(Rich::busy, "stepIs", 1, 0, 2, 5, 0);
        e.range(() -> Make.on(4, 0, 0), "stepIs", 0, 0, 3, 0, 1);
        e.range(() -> Make.on(14, 0, 0), "stepIs", 0, 0, 13, 0, 1);
    }

    private void hide() {
        e.promise(5, "A STEP is NONE (-1: no one): which one was (-1: no one).");
        UpAllRound x = Make.on(14);
        e.are("hide", x.hide(-1), -1, x.hide(0), -1, x.hide(0), 0, x.hide(13), 0, x.count(3), 13, x.hide(-1), 13, x.hide(-1), -1,
            x.count(3), -1);
        e.promise(5, "BEYOND.");
        e.range(Rich::busy, "hide", 0, -1, 5, 0);
        e.range(() -> Make.on(4, 0, 0), "hide", 0, -1, 3, 0);
        e.range(() -> Make.on(14, 0, 0), "hide", 0, -1, 13, 0);
    }

    private void climber() {
        e.promise(6, "One more CLIMBER (km: 10 times the KIND, and m) AT a STEP: the number.");
        for (int km = 0; km <= 69; km++) {
            UpAllRound x = Rich.busy();
            e.are("km " + km, x.climber(km, 5), 4, x.climberIs(4, 0), km / 10, x.climberIs(4, 1), km % 10, x.climberIs(4, 2), 5,
                x.climberIs(4, 3), 0, x.count(0), 5);
        }
        UpAllRound again = Make.with();
        again.image();
        e.are("a height of 0 behind another's", again.climber(0, 0), 0, again.height(0, 55), 0, again.restore(), 0,
            again.climber(12, 3), 0, again.climberIs(0, 3), 0, again.climberIs(0, 0), 1);
        e.promise(6, "BEYOND.");
        e.range(Rich::busy, "climber", 0, 0, 69, 0, 0);
        e.range(Rich::busy, "climber", 1, 0, 5, 0, 0);
        e.range(() -> Make.on(4, 0, 0), "climber", 1, 0, 3, 0, 0);
        e.range(() -> Make.on(14, 0, 0), "climber", 1, 0, 13, 0, 0);
        e.promise(6, "FULL.");
        UpAllRound five = Rich.busy();
        e.are("the last ones", five.climber(0, 0), 4, five.climber(0, 0), 5, five.climber(0, 0), Edges.LOW - Edges.FULL);
        e.refuses(Edges.FULL, Rich::full, "climber", 0, 0);
        e.refuses(Edges.FULL, Rich::full, "climber", 69, 5);
        e.refuses(Edges.BEYOND, Rich::full, "climber", 70, 0);
        e.refuses(Edges.BEYOND, Rich::full, "climber", 0, 6);
    }

    private void climberIs() {
        e.promise(7, "Of a CLIMBER: 0 KIND, 1 m, 2 AT, 3 HEIGHT, 4 GOES (3, 4 any number).");
        UpAllRound x = Make.on(14, 0, 0, 69, 13, 58, 7);
        x.height(1, 9999);
        x.height(2, -9999);
        e.are("a lift", x.climberIs(1, 0), 6, x.climberIs(1, 1), 9, x.climberIs(1, 2), 13, x.climberIs(1, 3), 9999,
            x.climberIs(1, 4), 10);
        e.are("a ball", x.climberIs(2, 0), 5, x.climberIs(2, 1), 8, x.climberIs(2, 2), 7, x.climberIs(2, 3), -9999,
            x.climberIs(2, 4), -4);
        e.asks(5, Rich::busy, "climberIs", 3, 0);
        e.asks(-4, Rich::busy, "climberIs", 3, 4);
        e.promise(7, "BEYOND.");
        e.range(Rich::busy, "climberIs", 0, 0, 3, 0, 0);
        e.range(Rich::full, "climberIs", 0, 0, 5, 0, 4);
        e.range(Rich::busy, "climberIs", 1, 0, 4, 3, 0);
        e.refuses(Edges.BEYOND, Rich::bare, "climberIs", 0, 0);
    }

    private void become() {
        e.promise(8, "A CLIMBER becomes one of a KIND, with m (km): the KIND that it was.");
        UpAllRound x = Make.with(0, 0, 35, 6);
        x.height(1, -12);
        for (int km = 0; km <= 69; km++) {
            e.are("km " + km, x.become(1, km), km == 0 ? 3 : (km - 1) / 10, x.climberIs(1, 0), km / 10,
                x.climberIs(1, 1), km % 10);
        }
        e.are("the rest stays", x.climberIs(1, 2), 6, x.climberIs(1, 3), -12, x.climberIs(0, 0), 0, x.count(0), 2);
        e.promise(8, "BEYOND.");
        e.range(Rich::busy, "become", 0, 0, 3, 0, 44);
        e.range(Rich::full, "become", 0, 0, 5, 0, 44);
        e.range(Rich::busy, "become", 1, 0, 69, 3, 0);
        e.refuses(Edges.BEYOND, Rich::bare, "become", 0, 0);
    }

    private void as() {
        e.promise(9, "A CLIMBER as one of a KIND: m.");
        int[][] kinds = {{0}, {0, 1}, {0, 2}, {0, 3}, {0, 1, 4}, {0, 2, 5}, {0, 6}};
        for (int kind = 0; kind <= 6; kind++) {
            int km = 10 * kind + 9 - kind;
            for (int above : kinds[kind]) {
                e.asks(9 - kind, () -> Make.with(0, 0, km, 0), "as", 1, above);
            }
        }
        e.promise(9, "BEYOND.");
        e.range(Rich::busy, "as", 0, 0, 3, 0, 0);
        e.range(Rich::busy, "as", 1, 0, 6, 3, 0);
        e.refuses(Edges.BEYOND, Rich::bare, "as", 0, 0);
        e.promise(9, "KIND: it isn't of that KIND, nor of one under it.");
        int[][] others = {{1, 2, 3, 4, 5, 6}, {2, 3, 4, 5, 6}, {1, 3, 4, 5, 6}, {1, 2, 4, 5, 6}, {2, 3, 5, 6}, {1, 3, 4, 6},
            {1, 2, 3, 4, 5}};
        for (int kind = 0; kind <= 6; kind++) {
            int km = 10 * kind + 3;
            for (int other : others[kind]) {
                e.refuses(Edges.KIND, () -> Make.with(0, 0, km, 0), "as", 1, other);
            }
        }
        e.refuses(Edges.KIND, Rich::busy, "as", 0, 6);
        e.refuses(Edges.BEYOND, Rich::busy, "as", 0, 7);
        e.refuses(Edges.BEYOND, Rich::busy, "as", -1, 6);
    }

    private void carry() {
        e.promise(10, "A CLIMBER is AT a STEP (HEIGHT stays): where it was.");
        UpAllRound x = Make.on(14, 0, 0, 0, 6);
        x.height(1, 9999);
        e.are("carry", x.carry(1, 13), 6, x.climberIs(1, 2), 13, x.carry(1, 0), 13, x.carry(1, 0), 0, x.climberIs(1, 2), 0,
            x.climberIs(1, 3), 9999, x.climberIs(0, 2), 0, x.count(2), 0);
        e.promise(10, "BEYOND.");
        e.range(Rich::busy, "carry", 0, 0, 3, 0, 1);
        e.range(Rich::full, "carry", 0, 0, 5, 0, 1);
        e.range(Rich::busy, "carry", 1, 0, 5, 3, 0);
        e.range(() -> Make.on(4, 0, 0), "carry", 1, 0, 3, 0, 0);
        e.range(() -> Make.on(14, 0, 0), "carry", 1, 0, 13, 0, 0);
        e.refuses(Edges.BEYOND, Rich::bare, "carry", 0, 0);
    }

    private void height() {
        e.promise(11, "HEIGHT of a CLIMBER becomes v: what it was (any number).");
        UpAllRound x = Make.with(0, 0, 0, 6);
        e.are("height", x.height(1, 9999), 0, x.climberIs(1, 3), 9999, x.height(1, -9999), 9999, x.climberIs(1, 3), -9999,
            x.height(1, 0), -9999, x.climberIs(1, 3), 0, x.climberIs(1, 2), 6, x.climberIs(0, 3), 0);
        e.promise(11, "BEYOND.");
        e.range(Rich::busy, "height", 0, 0, 3, 0, 17);
        e.range(Rich::full, "height", 0, 0, 5, 0, 17);
        e.range(Rich::busy, "height", 1, -9999, 9999, 3, 0);
        e.refuses(Edges.BEYOND, Rich::bare, "height", 0, 0);
    }
}
