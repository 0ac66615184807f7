/** Edges of sheets: the last part of terms 4, promises 30 to 34. */
final class SheetEdges {
    private static final int NONE = Edges.LOW - Edges.NONE;
    private static final int MISSING = 3;

    private final Edges e;

    SheetEdges(Edges e) {
        this.e = e;
    }

    void all() {
        sheets();
        sheet();
        sheetBeyond();
        sheetState();
        put();
        putRefused();
        move();
        moveRefused();
        moveBeyond();
        rises();
        risesRefused();
        judge();
        judgeRefused();
    }

    /** The first numbers of a sheet, as the rises tell them. */
    private void holds(String what, UpAllRound x, int sheet, int... numbers) {
        e.is(what + ", how many", x.rises(sheet), numbers.length);
        for (int i = 0; i < numbers.length; i++) {
            e.is(what + ", number " + i, x.stepIs(i, 0), numbers[i]);
        }
    }

    // ---- terms 4

    private void sheets() {
        e.terms(4, "SHEETS 0 .. 3 are rows of 8, 16, 32 bits, at most 24 numbers, or missing (as at first).");
        for (int sheet = 0; sheet <= 3; sheet++) {
            for (int bits : new int[] {8, 16, 32}) {
                UpAllRound x = new UpAllRound();
                e.are("missing at first", x.rises(sheet), NONE, x.judge(sheet), NONE, x.put(sheet, 0, 0), NONE);
                e.are("24 numbers", x.sheet(sheet, bits, 24), 1, x.put(sheet, 23, 5), 1, x.put(sheet, 24, 5),
                    Edges.LOW - Edges.BEYOND, x.sheet(sheet, bits, 25), Edges.LOW - Edges.BEYOND, x.put(sheet, 23, 5), 1);
                e.are("missing again", x.sheet(sheet, 0, 24), 1, x.rises(sheet), NONE, x.put(sheet, 0, 0), NONE);
            }
        }
    }

    // ---- promises

    private void sheet() {
        e.promise(30, "A SHEET has n numbers, all 0, of so many bits (8, 16, 32; 0: it is missing, n doesn't matter): 1.");
        for (int bits : new int[] {8, 16, 32}) {
            UpAllRound x = Rich.busy();
            e.are("bits " + bits, x.sheet(0, bits, 3), 1);
            holds("all 0 in place of numbers, " + bits, x, 0, 0, 0, 0);
            e.are("none, then six", x.sheet(0, bits, 0), 1, x.rises(0), 0, x.put(0, 0, 0), Edges.LOW - Edges.BEYOND,
                x.sheet(0, bits, 6), 1);
            holds("more than before, " + bits, x, 0, 0, 0, 0, 0, 0, 0);
            e.are("what is in them", x.put(0, 0, 0x10008), 1, x.put(0, 1, 0x108), 1, x.rises(0),
                bits == 8 ? 6 : bits == 16 ? 1 : 0);
        }
        for (long n : new long[] {0, 24, 25, -1, Edges.MIN, Edges.MAX}) {
            e.takes(1, Rich::busy, "sheet", 1, 0, n);
            e.takes(1, Rich::busy, "sheet", MISSING, 0, n);
            UpAllRound x = Rich.busy();
            x.sheet(1, 0, (int) n);
            e.are("only that one is missing", x.rises(1), NONE, x.put(1, 0, 0), NONE, x.rises(0), 3, x.rises(2), 4);
        }
    }

    private void sheetBeyond() {
        e.promise(30, "BEYOND.");
        e.range(Rich::busy, "sheet", 0, 0, 3, 0, 8, 3);
        e.range(Rich::busy, "sheet", 0, 0, 3, 0, 0, 3);
        for (int bits : new int[] {-1, 1, 4, 7, 9, 15, 17, 24, 31, 33, 64, -8, 8 + 256, Edges.MIN, Edges.MAX}) {
            e.refuses(Edges.BEYOND, Rich::busy, "sheet", 0, bits, 3);
        }
        for (int bits : new int[] {8, 16, 32}) {
            e.takes(1, Rich::busy, "sheet", 0, bits, 0);
            e.takes(1, Rich::busy, "sheet", 0, bits, 24);
            e.refuses(Edges.BEYOND, Rich::busy, "sheet", 0, bits, 25);
            e.refuses(Edges.BEYOND, Rich::busy, "sheet", MISSING, bits, Edges.MAX);
        }
    }

    private void sheetState() {
        e.promise(30, "STATE: n is below 0 (ahead of BEYOND of n).");
        for (int bits : new int[] {8, 16, 32}) {
            e.refuses(Edges.STATE, Rich::busy, "sheet", 0, bits, -1);
            e.refuses(Edges.STATE, Rich::busy, "sheet", MISSING, bits, Edges.MIN);
        }
        e.refuses(Edges.BEYOND, Rich::busy, "sheet", 4, 8, -1);
        e.refuses(Edges.BEYOND, Rich::busy, "sheet", -1, 8, -1);
        e.refuses(Edges.BEYOND, Rich::busy, "sheet", 0, 9, -1);
    }

    private void put() {
        e.promise(31, "Number i of a SHEET becomes v (its lowest bits): 1.");
        UpAllRound x = Make.on(14);
        Make.sheet(x, 0, 8, 256 + 9, -256 - 9, 255, 256, 248, -247);
        holds("8 bits", x, 0, 9, -9, -1, 0, -8, 9);
        Make.sheet(x, 1, 16, 65536 + 9, -65536 - 9, 65535, 65536, 65528, -65527);
        holds("16 bits", x, 1, 9, -9, -1, 0, -8, 9);
        Make.sheet(x, 2, 32, 9, -9, -1, 0, -8, 9);
        holds("32 bits", x, 2, 9, -9, -1, 0, -8, 9);
        e.are("what does not fit in bits", x.put(1, 0, 255), 1, x.rises(1), 0, x.put(1, 0, 256), 1, x.rises(1), 0,
            x.put(2, 0, 65536), 1,
            x.rises(2), 0, x.put(2, 0, 65535), 1, x.rises(2), 0, x.put(0, 0, 127), 1, x.rises(0), 0, x.put(0, 0, 128),
            1, x.rises(0), 0);
        UpAllRound y = Make.with(0, 0);
        heightBy(y, 0, 8, 127, 127);
        heightBy(y, 0, 8, 128, -128);
        heightBy(y, 0, 8, Edges.MIN, 0);
        heightBy(y, 0, 8, Edges.MAX, -1);
        heightBy(y, 1, 16, 9999, 9999);
        heightBy(y, 1, 16, 65536 - 9999, -9999);
        heightBy(y, 1, 16, Edges.MAX, -1);
        heightBy(y, 2, 32, -9999, -9999);
        int far = 1 << 30;
        e.are("the least and the most of 32 bits", Make.sheet(y, 2, 32, Edges.MIN).judge(2), 0,
            Make.sheet(y, 2, 32, Edges.MAX).judge(2), 0,
            Make.sheet(y, 2, 32, far).judge(2), 0, Make.sheet(y, 2, 32, 0).judge(2), 1);
    }

    /** A lift's height stays as it is, so that suspects() tells which number the sheet holds. */
    private void heightBy(UpAllRound x, int sheet, int bits, int v, int held) {
        x.become(0, 60);
        Make.sheet(x, sheet, bits, v);
        x.height(0, held);
        e.is(v + " in " + bits + " bits is " + held, x.suspects(0, sheet), 511);
    }

    private void putRefused() {
        e.promise(31, "BEYOND: no such SHEET.");
        e.range(() -> Make.sheet(Rich.busy(), MISSING, 8, 0), "put", 0, 0, 3, 0, 0, 5);
        e.refuses(Edges.BEYOND, Rich::busy, "put", 4, 0, 5);
        e.refuses(Edges.BEYOND, Rich::busy, "put", -1, -1, 5);
        e.promise(31, "NONE: it is missing.");
        e.refuses(Edges.NONE, Rich::busy, "put", MISSING, 0, 5);
        e.refuses(Edges.NONE, Rich::busy, "put", MISSING, -1, 5);
        e.refuses(Edges.NONE, Rich::busy, "put", MISSING, 24, 5);
        e.refuses(Edges.NONE, UpAllRound::new, "put", 0, 0, 5);
        e.promise(31, "BEYOND: no such number.");
        e.range(Rich::busy, "put", 1, 0, 2, 0, 0, 5);
        e.range(Rich::busy, "put", 1, 0, 1, 1, 0, 5);
        e.range(Rich::busy, "put", 1, 0, 3, 2, 0, 5);
        e.range(() -> sized(24), "put", 1, 0, 23, 0, 0, 5);
        e.range(() -> sized(1), "put", 1, 0, 0, 0, 0, 5);
        e.refuses(Edges.BEYOND, () -> sized(0), "put", 0, 0, 5);
        e.refuses(Edges.BEYOND, () -> sized(0), "put", 0, -1, 5);
    }

    private static UpAllRound sized(int n) {
        UpAllRound x = Rich.busy();
        x.sheet(0, 16, n);
        return x;
    }

    private void move() {
        e.promise(32, "n numbers of a SHEET, from number i on, come to another one (or the same), from its number j on, as they all were: n.");
        UpAllRound x = Make.on(14);
        Make.sheet(x, 0, 16, 1, 2, 3, 4, 5);
        Make.sheet(x, 1, 16, -1, -2, -3);
        e.is("the last two to the last two", x.move(0, 3, 1, 1, 2), 2);
        holds("there", x, 1, -1, 4, 5);
        holds("here", x, 0, 1, 2, 3, 4, 5);
        e.is("all of the shorter one", x.move(1, 0, 0, 2, 3), 3);
        holds("at the longer one's end", x, 0, 1, 2, -1, 4, 5);
        e.is("upward in itself", x.move(0, 0, 0, 1, 4), 4);
        holds("as they all were", x, 0, 1, 1, 2, -1, 4);
        e.is("downward in itself", x.move(0, 1, 0, 0, 4), 4);
        holds("as they all were then", x, 0, 1, 2, -1, 4, 4);
        e.are("all on itself, and none", x.move(0, 0, 0, 0, 5), 5, x.move(0, 5, 1, 3, 0), 0, x.move(0, 0, 1, 0, 0), 0);
        holds("as it was", x, 0, 1, 2, -1, 4, 4);
        holds("as that was", x, 1, -1, 4, 5);
        Make.sheet(x, 2, 16);
        e.is("none of an empty one", x.move(2, 0, 0, 5, 0), 0);
        UpAllRound all = Make.on(14);
        all.sheet(3, 32, 24);
        all.sheet(2, 32, 24);
        all.put(3, 0, -7);
        e.are("all 24", all.move(3, 0, 2, 0, 24), 24, all.move(2, 0, 2, 23, 1), 1, all.move(2, 23, 3, 5, 1), 1,
            all.move(3, 1, 3, 0, 23), 23);
        holds("down by one", all, 3, 0, 0, 0, 0, -7, 0, 0, 0, 0, 0, 0, 0, 0, 0);
    }

    private void moveRefused() {
        e.promise(32, "BEYOND: no such SHEET.");
        e.range(Rich::busy, "move", 0, 0, 3, 0, 0, 0, 0, 1);
        e.range(Rich::busy, "move", 2, 0, 3, 0, 0, 0, 0, 1);
        e.refuses(Edges.BEYOND, Rich::busy, "move", MISSING, 0, 4, 0, 1);
        e.refuses(Edges.BEYOND, Rich::busy, "move", 4, 0, MISSING, 0, 1);
        e.refuses(Edges.BEYOND, Rich::busy, "move", 4, 0, 1, 0, 0);
        e.promise(32, "NONE: one is missing.");
        e.refuses(Edges.NONE, Rich::busy, "move", MISSING, 0, 0, 0, 1);
        e.refuses(Edges.NONE, Rich::busy, "move", 0, 0, MISSING, 0, 1);
        e.refuses(Edges.NONE, Rich::busy, "move", MISSING, 0, MISSING, 0, 0);
        e.refuses(Edges.NONE, Rich::busy, "move", 0, -1, MISSING, -1, -1);
        e.promise(32, "KIND: they are of unlike bits.");
        for (int one = 0; one <= 2; one++) {
            for (int other = 0; other <= 2; other++) {
                if (one != other) {
                    e.refuses(Edges.KIND, Rich::busy, "move", one, 0, other, 0, 1);
                    e.refuses(Edges.KIND, Rich::busy, "move", one, -1, other, 24, 0);
                }
            }
        }
    }

    private void moveBeyond() {
        e.promise(32, "BEYOND: n, i, or j is below 0, or they don't stand there.");
        e.range(SheetEdges::two, "move", 4, 0, 2, 0, 1, 1, 0, 0);
        e.range(SheetEdges::two, "move", 4, 0, 2, 1, 0, 0, 1, 0);
        e.range(SheetEdges::two, "move", 4, 0, 3, 0, 0, 0, 0, 0);
        e.range(SheetEdges::two, "move", 1, 0, 1, 0, 0, 1, 0, 2);
        e.range(SheetEdges::two, "move", 1, 0, 3, 0, 0, 1, 0, 0);
        e.range(SheetEdges::two, "move", 3, 0, 2, 0, 0, 1, 0, 2);
        e.range(SheetEdges::two, "move", 3, 0, 4, 0, 0, 1, 0, 0);
        for (int far : new int[] {Edges.MAX, Edges.MAX - 1, Edges.MAX - 2, Edges.MIN}) {
            e.refuses(Edges.BEYOND, SheetEdges::two, "move", 0, far, 1, 0, 2);
            e.refuses(Edges.BEYOND, SheetEdges::two, "move", 0, 0, 1, far, 3);
            e.refuses(Edges.BEYOND, SheetEdges::two, "move", 0, 2, 1, 2, far);
            e.refuses(Edges.BEYOND, SheetEdges::two, "move", 0, far, 1, far, far);
        }
        e.refuses(Edges.BEYOND, SheetEdges::two, "move", 0, -1, 1, 0, 1);
        e.refuses(Edges.BEYOND, SheetEdges::two, "move", 0, 3, 1, 0, 1);
        e.refuses(Edges.BEYOND, SheetEdges::two, "move", 0, 0, 1, 4, 1);
        e.refuses(Edges.BEYOND, SheetEdges::two, "move", 0, 1, 0, 0, -1);
    }

    /** Sheets 0 and 1 of 8 bits, with three and four numbers. */
    private static UpAllRound two() {
        return Make.sheet(Rich.busy(), 1, 8, 4, 5, 6, 7);
    }

    private void rises() {
        e.promise(33, "Numbers of a SHEET become RISES of STEPS 0, 1, ..: how many, up to the first that is not -9 to 9 (no ERROR then)");
        UpAllRound x = Make.on(6);
        Make.sheet(x, 0, 8, 9, -9, 0, 4);
        e.are("fewer than steps", x.rises(0), 4, x.stepIs(0, 0), 9, x.stepIs(1, 0), -9, x.stepIs(2, 0), 0, x.stepIs(3, 0), 4,
            x.stepIs(4, 0), 1, x.stepIs(5, 0), 1);
        Make.sheet(x, 0, 16, 2, 2, 2, 2, 2, 2, 5, 10);
        e.are("for which there is no step", x.rises(0), 6, x.stepIs(5, 0), 2, x.count(1), 6, x.build(14), 6, x.stepIs(6, 0), 1);
        Make.sheet(x, 0, 16, 2, 2, 2, 2, 2, 2, 5, 10);
        e.are("the step is ahead of the number", Make.sheet(Make.on(7), 0, 16, 2, 2, 2, 2, 2, 2, 5, 10).rises(0), 7,
            x.rises(0), 7);
        for (int wrong : new int[] {10, -10, 127, -128}) {
            UpAllRound y = Make.on(6);
            Make.sheet(y, 0, 8, 3, wrong, 5);
            e.are("the first that is " + wrong, y.rises(0), 1, y.stepIs(0, 0), 3, y.stepIs(1, 0), 1, y.stepIs(2, 0), 1,
                y.put(0, 0, wrong), 1, y.rises(0), 0, y.stepIs(0, 0), 3, y.told(1), 0);
        }
        for (int wrong : new int[] {Edges.MIN, Edges.MAX, 10, -10}) {
            e.takes(0, () -> Make.sheet(Rich.busy(), 2, 32, wrong, 5), "rises", 2);
        }
        e.asks(0, () -> sized(0), "rises", 0);
        UpAllRound all = Make.on(14);
        all.sheet(0, 8, 24);
        e.are("24 on fourteen", all.rises(0), 14, all.stepIs(13, 0), 0);
    }

    private void risesRefused() {
        e.promise(33, "BEYOND: no such SHEET.");
        e.range(Rich::busy, "rises", 0, 0, 3, 0);
        e.range(UpAllRound::new, "rises", 0, 0, 3, 0);
        e.promise(33, "NONE: it is missing.");
        e.refuses(Edges.NONE, Rich::busy, "rises", MISSING);
        e.refuses(Edges.NONE, UpAllRound::new, "rises", 0);
    }

    private void judge() {
        e.promise(34, "Numbers of a SHEET are the STEPS AT which CLIMBERS 0, 1, .. are: how many are right, from the first on.");
        e.asks(6, () -> judged(0, 13, 5, 5, 7, 2), "judge", 0);
        e.asks(6, () -> judged(0, 13, 5, 5, 7, 2, 0, 0), "judge", 0);
        e.asks(5, () -> judged(0, 13, 5, 5, 7), "judge", 0);
        e.asks(5, () -> judged(0, 13, 5, 5, 7, 3), "judge", 0);
        e.asks(0, () -> judged(1, 13, 5, 5, 7, 2), "judge", 0);
        e.asks(1, () -> judged(0, -1, 5, 5, 7, 2), "judge", 0);
        e.asks(2, () -> judged(0, 13, 5 + 14, 5, 7, 2), "judge", 0);
        e.asks(0, () -> judged(), "judge", 0);
        e.asks(0, () -> Make.sheet(Rich.bare(), 0, 8, 0, 0), "judge", 0);
    }

    private static UpAllRound judged(int... numbers) {
        return Make.sheet(Make.on(14, 0, 0, 12, 13, 20, 5, 31, 5, 44, 7, 69, 2), 0, 8, numbers);
    }

    private void judgeRefused() {
        e.promise(34, "BEYOND: no such SHEET.");
        e.range(Rich::busy, "judge", 0, 0, 3, 0);
        e.range(UpAllRound::new, "judge", 0, 0, 3, 0);
        e.promise(34, "NONE: it is missing.");
        e.refuses(Edges.NONE, Rich::busy, "judge", MISSING);
        e.refuses(Edges.NONE, UpAllRound::new, "judge", 3);
    }
}
