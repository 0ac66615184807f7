/** Edges of texts: terms 2, promises 12 to 15. */
final class TextEdges {
    private static final int FAULT = -10;

    private final Edges e;

    TextEdges(Edges e) {
        this.e = e;
    }

    void all() {
        tape();
        or();
        and();
        compare();
        sum();
        product();
        innermost();
        blanks();
        open();
        ints();
        truths();
        fault();
        counted();
        worth();
        feed();
        fullTape();
        text();
        textBeyond();
        textFault();
        untell();
        law();
    }

    /** These are texts. */
    private void right(String... texts) {
        for (String text : texts) {
            e.is(text, Make.said(0, text), 1);
        }
    }

    /** This is none: so long it could have become one. */
    private void wrong(String text, int place) {
        e.is(text, Make.said(0, text), FAULT - place);
    }

    // ---- terms 2

    private void tape() {
        e.terms(2, "TEXTS are read from THE TAPE (bytes, at most 60): T: A { | A }.");
        String sixty = "1+".repeat(29) + "r+";
        e.are("a text of sixty bytes", sixty.length(), 60, Make.gives(sixty.substring(0, 58) + "20", 0, 0, 0), 29 + 20,
            Make.gives(sixty.substring(0, 57) + "*70", 0, 0, 0), 28 + 70);
        e.are("sixty bytes, each of which is worked out", Make.gives("!1" + "+1".repeat(29), 0, 0, 0), 29,
            Make.gives("!0" + "+1".repeat(29), 0, 0, 0), 30);
        e.are("sixty bytes that end too early", Make.said(0, sixty), FAULT - 60);
        e.are("one byte", Make.said(0, "7"), 1, Make.said(0, "r"), 1);
        UpAllRound x = new UpAllRound();
        Make.feed(x, sixty);
        e.are("a sixty-first", x.feed('1', 1), Edges.LOW - Edges.FULL, x.text(0), FAULT - 60);
        right("0|0", "0|0|0|0", "r|(s|t)");
        wrong("|0", 0);
        wrong("0||0", 2);
        wrong("0|", 2);
        e.are("from the left", Make.gives("0|0|5", 0, 0, 0), 1, Make.gives("0|0|0", 0, 0, 0), 0, Make.gives("5|0|0", 0, 0, 0), 1);
    }

    private void or() {
        e.terms(2, "A: B { & B }.");
        right("1&1", "1&1&1&1", "1|1&1|1");
        wrong("&1", 0);
        wrong("1&&1", 2);
        wrong("1&|1", 2);
        wrong("1&", 2);
        e.are("ahead of |", Make.gives("1|1&0", 0, 0, 0), 1, Make.gives("0&1|1", 0, 0, 0), 1, Make.gives("(1|1)&0", 0, 0, 0), 0);
        e.are("all", Make.gives("1&1&0", 0, 0, 0), 0, Make.gives("0&1&1", 0, 0, 0), 0, Make.gives("2&3&4", 0, 0, 0), 1);
    }

    private void and() {
        e.terms(2, "B: S, or S < S, S = S, S > S.");
        right("1<1", "1=1", "1>1", "1<1&1<1|1>1", "(1<1)<1", "1=(1=1)");
        for (String two : new String[] {"1<1<1", "1=1=1", "1>1>1", "1<1>1", "1=1<1"}) {
            wrong(two, 3);
        }
        wrong("1<", 2);
        wrong("1<=1", 2);
        wrong("<1", 0);
        wrong("(1=1=1)", 4);
    }

    private void compare() {
        e.terms(2, "| & < = > ! are 1 or 0");
        e.are("least and most", Make.gives("r<s", Edges.MIN, Edges.MAX, 0), 1, Make.gives("r>s", Edges.MIN, Edges.MAX, 0), 0,
            Make.gives("r>s", Edges.MAX, Edges.MIN, 0), 1, Make.gives("r<s", Edges.MAX, Edges.MIN, 0), 0,
            Make.gives("r=s", Edges.MIN, Edges.MIN, 0), 1, Make.gives("r=s", Edges.MIN, Edges.MAX, 0), 0);
        e.are("alike", Make.gives("r<s", 4, 4, 0), 0, Make.gives("r>s", 4, 4, 0), 0, Make.gives("r=s", 4, 4, 0), 1);
        e.are("one apart", Make.gives("r<s", 3, 4, 0), 1, Make.gives("r>s", 5, 4, 0), 1, Make.gives("r=s", 5, 4, 0), 0,
            Make.gives("r<s", -4, -3, 0), 1, Make.gives("r>s", -4, -3, 0), 0);
    }

    private void sum() {
        e.terms(2, "S: P { + P, - P }.");
        right("1+1", "1-1", "1+1-1+1-1");
        wrong("+1", 0);
        wrong("-1", 0);
        wrong("1+-1", 2);
        wrong("1--1", 2);
        wrong("1-", 2);
        e.are("from the left", Make.gives("9-5-3", 0, 0, 0), 1, Make.gives("9-5+3", 0, 0, 0), 7,
            Make.gives("1-2*3", 0, 0, 0), -5);
        e.are("ahead of a comparison", Make.gives("1+1=2", 0, 0, 0), 1, Make.gives("3<1+1", 0, 0, 0), 0);
    }

    private void product() {
        e.terms(2, "P: Q { * Q, / Q, % Q }.");
        right("1*1", "1/1", "1%1", "1*1/1%1");
        wrong("*1", 0);
        wrong("/1", 0);
        wrong("%1", 0);
        wrong("1**1", 2);
        wrong("1*+1", 2);
        wrong("1%", 2);
        e.are("from the left", Make.gives("60/5/3", 0, 0, 0), 4, Make.gives("7*6%4", 0, 0, 0), 2, Make.gives("7%4*3", 0, 0, 0), 9,
            Make.gives("9/2*2", 0, 0, 0), 8);
    }

    private void innermost() {
        e.terms(2, "Q: a NUMBER of 1 to 4 digits, a NAME, ! Q, ( T ).");
        right("0", "9", "00", "0000", "9999", "!1", "!r", "!!r", "!(1)", "(1)", "((1|1))", "(1)*(1)");
        wrong("00000", 4);
        wrong("12345", 4);
        wrong("1+99999", 6);
        wrong("1r", 1);
        wrong("r1", 1);
        wrong("rr", 1);
        wrong("!", 1);
        wrong("(", 1);
        wrong("()", 1);
        wrong("(1", 2);
        wrong("1)", 1);
        wrong("(1))", 3);
        wrong("(1|)", 3);
        wrong("1!", 1);
        wrong("1(1)", 1);
        wrong("!)", 1);
        wrong("u", 0);
        e.are("digits", Make.gives("9999-9998", 0, 0, 0), 1, Make.gives("0010", 0, 0, 0), 10,
            Make.gives("9999/101", 0, 0, 0), 99);
        e.are("! of the next one alone", Make.gives("!0+5", 0, 0, 0), 6, Make.gives("!0*0", 0, 0, 0), 0,
            Make.gives("!0=0", 0, 0, 0), 0,
            Make.gives("!5|5", 0, 0, 0), 1);
    }

    private void blanks() {
        e.terms(2, "No blanks.");
        wrong(" ", 0);
        wrong(" 1", 0);
        wrong("1 ", 1);
        wrong("1 +1", 1);
        wrong("1+ 1", 2);
        wrong("1\n", 1);
        wrong("\t1", 0);
        wrong("1\0", 1);
    }

    private void open() {
        e.terms(2, "At most 5 of ! and ( are open at once.");
        right("!!!!!1", "(((((1)))))", "!(!(!1))", "(!(!(1)))", "!!!!(1)", "((((!1))))", "!!!!!1+!!!!!1",
            "(((((1)))))|(((((1)))))", "((((1))+(((1)))))", "(((((1)+1)+1)+1)+1)", "(!1+(!1+(!1+(!1))))", "((((!1+!1))))");
        wrong("!!!!!!1", 5);
        wrong("((((((1))))))", 5);
        wrong("!!!!!(1)", 5);
        wrong("(((((!1)))))", 5);
        wrong("(!(!(!1)))", 5);
        wrong("1+!!!!!!1", 7);
        wrong("(((((1))))!", 10);
        wrong("((((!!1))))", 5);
        wrong("((((1+!!1))))", 7);
        wrong("(((((", 5);
        wrong("!!!!!", 5);
        e.are("worked out", Make.gives("!!!!!7", 0, 0, 0), 0, Make.gives("(((((7)))))", 0, 0, 0), 7,
            Make.gives("!!!!7", 0, 0, 0), 1);
    }

    private void ints() {
        e.terms(2, "Ints that wrap; / cut, % the rest that it leaves, both by 0 are 0");
        e.are("wrap", Make.gives("r+1=s", Edges.MAX, Edges.MIN, 0), 1, Make.gives("r-1=s", Edges.MIN, Edges.MAX, 0), 1,
            Make.gives("r*2=s", 1 << 30, Edges.MIN, 0), 1, Make.gives("r*r", 65536, 0, 0), 0,
            Make.gives("r*s=t", Edges.MIN, -1, Edges.MIN), 1,
            Make.gives("0-r=r", Edges.MIN, 0, 0), 1, Make.gives("9999*9999*9999=r", (int) (9999L * 9999 * 9999), 0, 0), 1);
        e.are("the least by -1", Make.gives("r/s=r", Edges.MIN, -1, 0), 1, Make.gives("r%s", Edges.MIN, -1, 0), 0,
            Make.gives("r/s=t", Edges.MAX, -1, -Edges.MAX), 1);
        e.are("cut", Make.gives("r/2", 7, 0, 0), 3, Make.gives("r/2", -7, 0, 0), -3, Make.gives("r/s", 7, -2, 0), -3,
            Make.gives("r/s", -7, -2, 0), 3);
        e.are("rest", Make.gives("r%3", 7, 0, 0), 1, Make.gives("r%3", -7, 0, 0), -1, Make.gives("r%s", 7, -3, 0), 1,
            Make.gives("r%s", -7, -3, 0), -1, Make.gives("r%3", 6, 0, 0), 0);
        e.are("by 0", Make.gives("r/0", 7, 0, 0), 0, Make.gives("r%0", 7, 0, 0), 0, Make.gives("r/s", Edges.MIN, 0, 0), 0,
            Make.gives("r%s", Edges.MIN, 0, 0), 0, Make.gives("0/0", 0, 0, 0), 0, Make.gives("0%0", 0, 0, 0), 0,
            Make.gives("5+r/(s-s)", 7, 7, 0), 5);
    }

    private void truths() {
        e.terms(2, "what is not 0 being true; all is worked out");
        for (int v : new int[] {1, 2, -1, Edges.MIN, Edges.MAX}) {
            e.are("true is " + v, Make.gives("r|0", v, 0, 0), 1, Make.gives("0|r", v, 0, 0), 1, Make.gives("r&1", v, 0, 0), 1,
                Make.gives("1&r", v, 0, 0), 1, Make.gives("!r", v, 0, 0), 0, Make.gives("!!r", v, 0, 0), 1,
                Make.gives("r&0", v, 0, 0), 0);
        }
        e.are("false is 0", Make.gives("0|0", 0, 0, 0), 0, Make.gives("1&0", 0, 0, 0), 0, Make.gives("!0", 0, 0, 0), 1,
            Make.gives("!!0", 0, 0, 0), 0);
        e.are("also what decides nothing", Make.gives("1|r/0", 1, 0, 0), 1, Make.gives("0&r/0", 1, 0, 0), 0,
            Make.gives("(1|0)+(0&1)+5", 0, 0, 0), 6, Make.gives("2&4|8", 0, 0, 0), 1);
    }

    private void fault() {
        e.terms(2, "FAULT: the place of the first byte with which no TEXT goes on; how many there are, if it ends too early.");
        wrong("", 0);
        wrong("1+1+", 4);
        wrong("1+1+*", 4);
        wrong("1+1+*?", 4);
        wrong("?", 0);
        wrong("\u00ff", 0);
        wrong("\u00ff1", 0);
        wrong("1\u00b1", 1);
        wrong("(1+2", 4);
        wrong("(1+2(", 4);
        wrong("1234)", 4);
        wrong("1234(", 4);
        e.are("of worth", Make.said(1, "s+h+c+t"), FAULT - 6, Make.said(1, "r"), FAULT, Make.said(0, "r+h"), FAULT - 2);
        UpAllRound x = Rich.taped(60);
        e.are("the last of sixty bytes", x.text(0), FAULT - 60, text60("1+".repeat(29) + "1)"), FAULT - 59,
            text60("1+".repeat(30)), FAULT - 60, text60("1+".repeat(29) + "(1"), FAULT - 60);
    }

    private static int text60(String signs) {
        UpAllRound x = new UpAllRound();
        int bytes = Make.feed(x, signs);
        return bytes == 60 ? x.text(0) : bytes;
    }

    private void counted() {
        e.terms(2, "held within -99 .. 99; without a TEXT r (held likewise)");
        e.are("by a text", Make.gives("r+s", 98, 1, 0), 99, Make.gives("r+s", 99, 1, 0), 99, Make.gives("r+s", -98, -1, 0), -99,
            Make.gives("r+s", -99, -1, 0), -99, Make.gives("r", Edges.MIN, 0, 0), -99, Make.gives("r", Edges.MAX, 0, 0), 99,
            Make.gives("t", 1, 2, 3), 3, Make.gives("s", 1, 2, 3), 2);
        UpAllRound x = new UpAllRound();
        e.are("without", x.law(0, 99, 5, 6), 99, x.law(0, 100, 5, 6), 99, x.law(0, -99, 5, 6), -99, x.law(0, -100, 5, 6), -99,
            x.law(0, 0, 5, 6), 0, x.law(0, Edges.MIN, 5, 6), -99, x.law(0, Edges.MAX, 5, 6), 99);
    }

    private void worth() {
        e.terms(2, "held within 0 .. 999; without a TEXT h (held likewise)");
        UpAllRound x = new UpAllRound();
        e.are("without", x.law(1, 5, 999, 6), 999, x.law(1, 5, 1000, 6), 999, x.law(1, 5, 0, 6), 0, x.law(1, 5, -1, 6), 0,
            x.law(1, 5, Edges.MIN, 6), 0, x.law(1, 5, Edges.MAX, 6), 999, x.law(1, 5, 1, 6), 1, x.law(1, 5, 998, 6), 998);
        Make.text(x, 1, "s*100+h*10+c");
        e.are("by a text", x.law(1, 9, 9, 9), 999, x.law(1, 9, 9, 10), 999, x.law(1, 0, 0, 0), 0, x.law(1, 0, 0, -1), 0,
            x.law(1, 1, 2, 3), 123, x.law(1, Edges.MAX, 0, 0), 0);
    }

    // ---- promises

    private void feed() {
        e.promise(12, "The n lowest bytes (1 .. 8) of a word, the lowest first, come to THE TAPE: how many there are.");
        UpAllRound x = new UpAllRound();
        e.are("one, and eight", x.feed(Make.word("r+s*2+t0"), 1), 1, x.feed(Make.word("+s*2+t-1"), 8), 9, x.text(0), 1,
            x.law(0, 1, 2, 3), 1 + 4 + 3 - 1);
        e.are("the higher ones don't matter", x.feed(-256L | 'r', 1), 1, x.feed(0x7FFFFFFFFFFF0000L | Make.word("+1"), 2), 3,
            x.count(5), 3, x.text(0), 1, x.law(0, 7, 0, 0), 8);
        e.are("the highest bit of the highest byte", x.feed(0x8000000000000000L | Make.word("1+1+1+1"), 8), 8,
            x.text(0), FAULT - 7);
        for (int n = 1; n <= 8; n++) {
            e.is("bytes of 0, " + n, new UpAllRound().feed(0, n), n);
        }
        e.promise(12, "BEYOND.");
        e.range(Rich::busy, "feed", 1, 1, 8, Make.word("12345678"), 0);
        e.range(Rich::bare, "feed", 1, 1, 8, -1, 0);
    }

    private void fullTape() {
        e.promise(12, "FULL.");
        e.takes(60, () -> Rich.taped(52), "feed", -1, 8);
        e.takes(60, () -> Rich.taped(59), "feed", -1, 1);
        e.takes(60, () -> Rich.taped(53), "feed", -1, 7);
        e.refuses(Edges.FULL, () -> Rich.taped(53), "feed", Make.word("12345678"), 8);
        e.refuses(Edges.FULL, () -> Rich.taped(59), "feed", Make.word("12345678"), 2);
        e.refuses(Edges.FULL, () -> Rich.taped(60), "feed", Make.word("12345678"), 1);
        e.refuses(Edges.FULL, () -> Rich.taped(60), "feed", 0, 8);
        e.refuses(Edges.BEYOND, () -> Rich.taped(60), "feed", 0, 0);
        e.refuses(Edges.BEYOND, () -> Rich.taped(60), "feed", 0, 9);
        UpAllRound x = Rich.taped(60);
        x.text(1);
        e.are("empty again", x.feed('7', 1), 1, x.text(0), 1, x.law(0, 1, 1, 1), 7);
    }

    private void text() {
        e.promise(13, "THE TAPE, which is empty then, is the TEXT of a USE (0, 1), in place of one ahead: 1.");
        UpAllRound x = new UpAllRound();
        e.are("a first one", Make.text(x, 0, "1+2+3+4"), 1, x.count(5), 0, x.law(0, 9, 9, 9), 10, x.law(1, 9, 9, 9), 9);
        e.are("a shorter one in its place", Make.text(x, 0, "s"), 1, x.count(5), 0, x.law(0, 7, 8, 9), 8);
        e.are("that of the other use", Make.text(x, 1, "c*2"), 1, x.law(0, 7, 8, 9), 8, x.law(1, 7, 8, 9), 18);
        e.are("a longer one", Make.text(x, 1, "c*2+s*3+h"), 1, x.law(1, 7, 8, 9), 18 + 21 + 8, x.law(0, 7, 8, 9), 8);
        UpAllRound y = Make.with(0, 0);
        Make.text(y, 0, "5");
        e.are("minutes go by it", y.minutes(1), 0, y.climberIs(0, 3), 5, y.then(1, 0, 1), 10, y.lap(0, 1), 40);
    }

    private void textBeyond() {
        e.promise(13, "BEYOND (THE TAPE stays).");
        e.range(Rich::busy, "text", 0, 0, 1, 0);
        e.range(UpAllRound::new, "text", 0, 0, 1, 0);
        e.refuses(Edges.BEYOND, () -> Rich.taped(60), "text", 2);
        UpAllRound x = new UpAllRound();
        Make.feed(x, "r*2");
        e.are("the tape behind it", x.text(2), Edges.LOW - Edges.BEYOND, x.text(-1), Edges.LOW - Edges.BEYOND,
            x.count(5), 3, x.text(0), 1,
            x.law(0, 4, 0, 0), 8);
    }

    private void textFault() {
        e.promise(13, "-10 less the FAULT (no ERROR; the one ahead stays; THE TAPE is empty, too).");
        e.takes(FAULT, UpAllRound::new, "text", 0);
        e.takes(FAULT, UpAllRound::new, "text", 1);
        e.takes(FAULT - 60, () -> Rich.taped(60), "text", 0);
        for (int use = 0; use <= 1; use++) {
            UpAllRound x = new UpAllRound();
            Make.text(x, 0, "7");
            Make.text(x, 1, "8");
            e.are("use " + use, Make.text(x, use, "5+"), FAULT - 2, x.count(5), 0, x.law(0, 1, 1, 1), 7, x.law(1, 1, 1, 1), 8,
                x.text(use), FAULT, x.law(0, 1, 1, 1), 7, x.law(1, 1, 1, 1), 8, x.told(1), 0);
            UpAllRound none = new UpAllRound();
            e.are("no one ahead of use " + use, Make.text(none, use, "5+"), FAULT - 2, none.untell(use), 0,
                none.law(use, 3, 3, 3), 3);
        }
    }

    private void untell() {
        e.promise(14, "There is no TEXT of a USE any more: 1 if there was, else 0.");
        UpAllRound x = new UpAllRound();
        Make.text(x, 0, "7");
        Make.text(x, 1, "8");
        Make.feed(x, "9");
        e.are("0", x.untell(0), 1, x.untell(0), 0, x.law(0, 3, 4, 5), 3, x.law(1, 3, 4, 5), 8, x.count(5), 1);
        e.are("1", x.untell(1), 1, x.untell(1), 0, x.law(1, 3, 4, 5), 4, x.text(1), 1, x.law(1, 3, 4, 5), 9, x.untell(1), 1);
        e.promise(14, "BEYOND.");
        e.range(Rich::busy, "untell", 0, 0, 1, 0);
        e.range(UpAllRound::new, "untell", 0, 0, 1, 0);
    }

    private void law() {
        e.promise(15, "What a USE gives with its NAMES in order as a, b, c (any number).");
        e.asks(4 + 3 - 1, Rich::busy, "law", 0, 4, 3, 9);
        e.asks(3 * 2 + 9, Rich::busy, "law", 1, 4, 3, 9);
        UpAllRound x = new UpAllRound();
        Make.text(x, 0, "(r<s)*10+(s<t)");
        e.are("least and most", x.law(0, Edges.MIN, 0, Edges.MAX), 11, x.law(0, Edges.MAX, Edges.MIN, Edges.MAX), 1,
            x.law(0, Edges.MIN, Edges.MAX, Edges.MIN), 10, x.law(0, 0, 0, 0), 0);
        e.promise(15, "BEYOND.");
        e.range(Rich::busy, "law", 0, 0, 1, 0, 4, 3, 9);
        e.range(UpAllRound::new, "law", 0, 0, 1, 0, 4, 3, 9);
    }
}
