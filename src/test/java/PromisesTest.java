/** Each promise of the document by itself: ordinary calls, edges, wrong calls. */
public final class PromisesTest {
    private static final int BEYOND = -1000000001;
    private static final int NONE = -1000000002;
    private static final int STATE = -1000000003;
    private static final int FULL = -1000000004;
    private static final int KIND = -1000000005;
    private static final int PARTED = -1000000006;
    private static final int MAX = Integer.MAX_VALUE;
    private static final int MIN = Integer.MIN_VALUE;

    private static final Due due = new Due();

    public static void main(String[] args) {
        stairs();
        climbers();
        texts();
        minutes();
        thoughts();
        voices();
        sheets();
        images();
        due.end();
    }

    private static void stairs() {
        promise1();
        promise2();
        promise3();
        promise4();
        promise5();
    }

    private static void climbers() {
        promise6();
        promise7();
        promise8();
        promise9();
        promise10();
        promise11();
    }

    private static void texts() {
        promise12();
        promise13();
        promise13Grammar();
        promise13Faults();
        promise14();
        promise15();
        promise15Signs();
    }

    private static void minutes() {
        promise16();
        promise16Goes();
        promise16Tallies();
        promise17();
        promise18();
    }

    private static void thoughts() {
        promise19();
        promise20();
        promise21();
        promise22();
        promise23();
        promise24();
        promise25();
        promise26();
        promise27();
    }

    private static void voices() {
        promise28();
        promise29();
    }

    private static void sheets() {
        promise30();
        promise31();
        promise32();
        promise33();
        promise34();
    }

    private static void images() {
        promise35and36();
        promise37();
        promise38();
        promise39();
        promise40();
    }

    private static int gives(String signs, int r, int s, int t) {
        return Make.gives(signs, r, s, t);
    }

    private static void promise1() {
        UpAllRound x = new UpAllRound();
        due.are("1", x.count(0), 0, x.count(1), 8, x.count(2), 0, x.count(3), -1, x.count(4), 0,
            x.count(5), 0, x.count(6), 0, x.count(7), 0, x.count(8), 1);
        for (int i = 0; i < 8; i++) {
            due.is("1 rise", x.stepIs(i, 0), 1);
        }
        due.are("1 rest", x.untell(0), 0, x.untell(1), 0, x.restore(), NONE, x.body(0), NONE,
            x.rises(0), NONE, x.rises(3), NONE, x.told(1), 0, x.told(2), 4, x.told(6), 0, x.image(), 1);
    }

    private static void promise2() {
        UpAllRound x = new UpAllRound();
        x.rise(3, 7);
        x.hide(2);
        due.are("2", x.build(14), 8, x.stepIs(3, 0), 1, x.count(3), -1, x.stepIs(13, 0), 1, x.stepIs(14, 0), BEYOND,
            x.rise(13, -9), 1, x.build(4), 14, x.stepIs(4, 0), BEYOND, x.build(14), 4, x.stepIs(13, 0), 1,
            x.build(3), BEYOND, x.build(15), BEYOND, x.build(MIN), BEYOND, x.count(1), 14);
        x.climber(0, 0);
        due.are("2 climbers", x.build(8), STATE, x.build(15), BEYOND, x.count(1), 14);
    }

    private static void promise3() {
        UpAllRound x = new UpAllRound();
        due.are("3", x.rise(0, 9), 1, x.rise(0, -9), 9, x.rise(0, 0), -9, x.rise(7, 2), 1, x.stepIs(7, 0), 2,
            x.rise(0, 10), BEYOND, x.rise(0, -10), BEYOND, x.rise(8, 0), BEYOND, x.rise(-1, 0), BEYOND,
            x.rise(MAX, 0), BEYOND, x.rise(0, MIN), BEYOND, x.stepIs(0, 0), 0, x.stepIs(1, 0), 1);
    }

    private static void promise4() {
        UpAllRound x = Make.with(0, 3, 10, 3, 20, 4);
        x.hide(4);
        x.rise(4, -3);
        due.are("4", x.stepIs(3, 2), 2, x.stepIs(4, 2), 1, x.stepIs(5, 2), 0, x.stepIs(4, 1), 1, x.stepIs(3, 1), 0,
            x.stepIs(4, 0), -3, x.stepIs(3, 0), 1, x.stepIs(-1, 0), BEYOND, x.stepIs(8, 1), BEYOND,
            x.stepIs(0, 3), BEYOND, x.stepIs(0, -1), BEYOND);
    }

    private static void promise5() {
        UpAllRound x = new UpAllRound();
        due.are("5", x.hide(0), -1, x.hide(7), 0, x.hide(8), BEYOND, x.hide(-2), BEYOND, x.hide(MIN), BEYOND,
            x.count(3), 7, x.hide(-1), 7, x.hide(-1), -1, x.count(3), -1);
    }

    private static void promise6() {
        UpAllRound x = new UpAllRound();
        due.are("6", x.climber(69, 7), 0, x.climberIs(0, 0), 6, x.climberIs(0, 1), 9, x.climberIs(0, 2), 7,
            x.climberIs(0, 3), 0, x.climber(0, 0), 1, x.climber(70, 0), BEYOND, x.climber(-1, 0), BEYOND,
            x.climber(0, 8), BEYOND, x.climber(0, -1), BEYOND, x.climber(10, 1), 2, x.climber(10, 1), 3,
            x.climber(10, 1), 4, x.climber(10, 1), 5, x.climber(10, 1), FULL, x.climber(70, 1), BEYOND,
            x.climber(10, 8), BEYOND, x.count(0), 6);
    }

    private static void promise7() {
        UpAllRound x = Make.with(0, 0, 15, 1, 29, 2, 32, 3, 48, 4, 57, 5);
        due.are("7", x.climberIs(0, 4), 1, x.climberIs(1, 4), 3, x.climberIs(2, 4), -1, x.climberIs(3, 4), -1,
            x.climberIs(4, 4), 3, x.climberIs(5, 4), -3, x.climberIs(4, 0), 4, x.climberIs(4, 1), 8,
            x.climberIs(4, 2), 4, x.climberIs(6, 0), BEYOND, x.climberIs(-1, 0), BEYOND,
            x.climberIs(0, 5), BEYOND, x.climberIs(0, -1), BEYOND);
        x.become(0, 64);
        long[] drunkAndLift = {-1, 5, 1, 0, 1, 0, -1, 0, 1, 5, 1, 0};
        for (int i = 0; i < 6; i++) {
            due.are("7 minute " + i, x.climberIs(3, 4), drunkAndLift[2 * i], x.climberIs(0, 4), drunkAndLift[2 * i + 1]);
            x.minutes(1);
        }
        UpAllRound y = Make.with(30, 0);
        y.minutes(1);
        due.is("7 a drunk of 0", y.climberIs(0, 4), -1);
        due.is("7 nobody", new UpAllRound().climberIs(0, 0), BEYOND);
    }

    private static void promise8() {
        UpAllRound x = Make.with(35, 6);
        x.height(0, 12);
        due.are("8", x.become(0, 69), 3, x.climberIs(0, 0), 6, x.climberIs(0, 1), 9, x.climberIs(0, 2), 6,
            x.climberIs(0, 3), 12, x.become(0, 0), 6, x.become(0, 70), BEYOND, x.become(0, -1), BEYOND,
            x.become(1, 0), BEYOND, x.become(-1, 0), BEYOND, x.climberIs(0, 0), 0);
    }

    private static void promise9() {
        int[] sets = {1, 1 | 2, 1 | 4, 1 | 8, 1 | 2 | 16, 1 | 4 | 32, 1 | 64};
        for (int kind = 0; kind < 7; kind++) {
            UpAllRound x = Make.with(kind * 10 + kind + 2, 0);
            for (int as = 0; as < 7; as++) {
                boolean is = (sets[kind] >> as & 1) == 1;
                due.is("9 " + kind + " as " + as, x.as(0, as), is ? kind + 2 : KIND);
            }
            due.are("9 wrong", x.as(0, 7), BEYOND, x.as(0, -1), BEYOND, x.as(1, 0), BEYOND, x.as(-1, 7), BEYOND);
        }
    }

    private static void promise10() {
        UpAllRound x = Make.with(0, 6);
        x.height(0, 5);
        due.are("10", x.carry(0, 7), 6, x.carry(0, 0), 7, x.climberIs(0, 2), 0, x.climberIs(0, 3), 5,
            x.carry(0, 8), BEYOND, x.carry(0, -1), BEYOND, x.carry(1, 0), BEYOND, x.carry(-1, 0), BEYOND,
            x.climberIs(0, 2), 0);
    }

    private static void promise11() {
        UpAllRound x = Make.with(0, 6);
        due.are("11", x.height(0, 9999), 0, x.height(0, -9999), 9999, x.height(0, 10000), BEYOND,
            x.height(0, -10000), BEYOND, x.height(1, 0), BEYOND, x.height(-1, 0), BEYOND, x.climberIs(0, 3), -9999);
    }

    private static void promise12() {
        UpAllRound x = new UpAllRound();
        due.are("12", x.feed(0x7FFFFF322B72L, 3), 3, x.feed('*', 1), 4, x.feed('s', 1), 5, x.count(5), 5, x.text(0), 1,
            x.law(0, 40, 3, 0), 46);
        UpAllRound y = new UpAllRound();
        due.are("12 lowest first", y.feed(0x322D72L, 3), 3, y.text(0), 1, y.law(0, 40, 0, 0), 38);
        UpAllRound z = new UpAllRound();
        due.are("12 wrong", z.feed(1, 0), BEYOND, z.feed(1, 9), BEYOND, z.feed(1, -1), BEYOND, z.feed(1, MIN), BEYOND,
            z.count(5), 0);
        for (int i = 1; i <= 7; i++) {
            due.is("12 eights", z.feed(-1L, 8), 8 * i);
        }
        due.are("12 full", z.feed(0, 5), FULL, z.feed(0, 9), BEYOND, z.count(5), 56, z.feed(0, 4), 60, z.feed(0, 1), FULL,
            z.text(0), -10, z.count(5), 0);
        UpAllRound high = new UpAllRound();
        due.are("12 the highest byte", high.feed(0xFF332B322B312B72L, 8), 8, high.text(0), -17,
            high.feed(0x342B322B312B2B72L, 8), 8, high.text(0), -12, high.feed(0x342B332B312D2D72L, 2), 2,
            high.feed(0x342B332B312D3733L, 8), 10, high.text(0), 1, high.law(0, 99, 0, 0), 99 - 37 - 1 + 3 + 4);
    }

    private static void promise13() {
        UpAllRound x = new UpAllRound();
        due.are("13", Make.text(x, 0, "r+1"), 1, x.count(5), 0, x.law(0, 5, 0, 0), 6, Make.text(x, 0, "r+"), -12,
            x.count(5), 0, x.law(0, 5, 0, 0), 6, Make.feed(x, "r*2"), 3, x.text(2), BEYOND, x.text(-1), BEYOND, x.count(5), 3,
            x.text(0), 1, x.law(0, 5, 0, 0), 10, x.law(1, 5, 7, 0), 7, Make.text(x, 1, "s*h+c"), 1, x.law(1, 5, 7, 2), 37,
            x.law(0, 5, 0, 0), 10, x.text(0), -10, x.law(0, 5, 0, 0), 10, x.told(1), 2);
    }

    private static void promise13Grammar() {
        String[] right = {"r", "s", "t", "0", "0000", "9999", "r|s|t", "r&s&t", "r<s", "r=s", "r>s|r=t", "r+s-t",
            "r*s/t%2", "!r", "!!!!!r", "!(!(!r))", "!!!!(r)", "(((((r)))))", "(r<s)<t", "(((((1)))))+(((((2)))))", "!1+!2", "1-!2*!(r)"};
        for (String signs : right) {
            UpAllRound x = new UpAllRound();
            due.is("13 " + signs, Make.text(x, 0, signs), 1);
        }
        String long60 = "1+2+3+4+5+6+7+8+9+1+2+3+4+5+6+7+8+9+1+2+3+4+5+6+7+8+9+1+2345";
        UpAllRound x = new UpAllRound();
        due.are("13 the longest", long60.substring(0, 60).length(), 60, Make.text(x, 0, long60.substring(0, 60)), 1,
            x.law(0, 0, 0, 0), 99);
    }

    private static void promise13Faults() {
        Object[][] wrong = {{"", 0}, {"h", 0}, {"+r", 0}, {"-1", 0}, {"r r", 1}, {"12345", 4}, {"1234r", 4}, {"rs", 1},
            {"r<s<t", 3}, {"r=s=t", 3}, {"r>s=1", 3}, {"r|", 2}, {"r||s", 2}, {"(r", 2}, {"(r))", 3}, {"()", 1},
            {"!!!!!!r", 5}, {"((((((r))))))", 5}, {"!(!(!!r))", 5}, {"((((!!r))))", 5}, {"r!", 1}, {"1(", 1},
            {"R", 0}, {"r<", 2}, {"r*", 2}, {"r**s", 2}, {"(1+2", 4}, {"(1<2<3)", 4}, {"!", 1}, {")", 0}, {"r&\u00ff", 2}};
        for (Object[] row : wrong) {
            UpAllRound x = new UpAllRound();
            int fault = (Integer) row[1];
            due.is("13 fault of " + row[0], Make.text(x, 0, (String) row[0]), -10 - fault);
            due.is("13 none stands for " + row[0], x.untell(0), 0);
        }
        UpAllRound y = new UpAllRound();
        UpAllRound stale = new UpAllRound();
        due.are("13 a shorter one behind a longer one", Make.text(stale, 0, "1234"), 1, Make.text(stale, 0, "12"), 1,
            stale.law(0, 0, 0, 0), 12, Make.text(stale, 0, "(r)"), 1, Make.text(stale, 0, "(r"), -12, Make.text(stale, 0, "r+s"), 1,
            Make.text(stale, 0, "r"), 1, stale.law(0, 5, 6, 0), 5,
            Make.text(stale, 0, "!s"), 1, Make.text(stale, 0, "s"), 1, stale.law(0, 5, 6, 0), 6);
        due.are("13 names of worth", Make.text(y, 1, "r"), -10, Make.text(y, 1, "h+t"), -12, Make.text(y, 1, "s+h+c"), 1,
            Make.text(y, 0, "c"), -10, y.told(1), 0);
    }

    private static void promise14() {
        UpAllRound x = new UpAllRound();
        Make.text(x, 0, "7");
        Make.text(x, 1, "8");
        due.are("14", x.law(0, 1, 1, 1), 7, x.untell(0), 1, x.untell(0), 0, x.law(0, 1, 1, 1), 1, x.law(1, 1, 2, 1), 8,
            x.untell(2), BEYOND, x.untell(-1), BEYOND, x.untell(1), 1, x.law(1, 1, 2, 1), 2);
    }

    private static void promise15() {
        UpAllRound x = new UpAllRound();
        due.are("15 no text", x.law(0, 99, 5, 5), 99, x.law(0, 100, 5, 5), 99, x.law(0, -99, 0, 0), -99,
            x.law(0, MIN, 0, 0), -99, x.law(1, 5, 999, 5), 999, x.law(1, 5, 1000, 5), 999, x.law(1, 5, -1, 5), 0,
            x.law(1, 5, MAX, 5), 999, x.law(2, 0, 0, 0), BEYOND, x.law(-1, 0, 0, 0), BEYOND);
        Make.text(x, 0, "r*s+t");
        Make.text(x, 1, "s*100+h*10+c");
        due.are("15 names", x.law(0, 2, 3, 4), 10, x.law(0, -20, 30, 4), -99, x.law(0, 20, 30, 4), 99,
            x.law(1, 1, 2, 3), 123, x.law(1, 10, 2, 3), 999, x.law(1, 0, -2, 3), 0);
    }

    private static void promise15Signs() {
        due.are("15 or and", gives("r|s", 0, 0, 0), 0, gives("r|s", 5, 0, 0), 1, gives("r|s", 0, -3, 0), 1,
            gives("r&s", 5, 7, 0), 1, gives("r&s", 5, 0, 0), 0, gives("r&s", 0, 0, 0), 0, gives("r&s", 0, 7, 0), 0,
            gives("r&s", 1, 1, 0), 1, gives("r|s&t", 1, 0, 0), 1, gives("(r|s)&t", 1, 0, 0), 0, gives("(r|s)", 0, 7, 0), 1,
            gives("(r&s)+1", 3, 7, 0), 2, gives("0", 7, 8, 9), 0,
            gives("r", 5, 0, 0), 5, gives("(r)", -5, 0, 0), -5);
        due.are("15 compare", gives("r<s", -1, 0, 0), 1, gives("r<s", 0, 0, 0), 0, gives("r=s", 4, 4, 0), 1,
            gives("r=s", 4, 5, 0), 0, gives("r>s", 5, 4, 0), 1, gives("r>s", 4, 4, 0), 0, gives("r+1<s*2", 2, 2, 0), 1);
        due.are("15 sums", gives("9-3-2", 0, 0, 0), 4, gives("2+3*4", 0, 0, 0), 14, gives("(2+3)*4", 0, 0, 0), 20,
            gives("r/2", -7, 0, 0), -3, gives("r%2", -7, 0, 0), -1, gives("r%s", 7, -4, 0), 3, gives("r/0", 7, 0, 0), 0,
            gives("r%0", 7, 0, 0), 0, gives("90/3/2", 0, 0, 0), 15, gives("7*6%5", 0, 0, 0), 2, gives("9*9/0+3", 0, 0, 0), 3);
        due.are("15 not", gives("!r", 0, 0, 0), 1, gives("!r", -3, 0, 0), 0, gives("!!r", 7, 0, 0), 1,
            gives("!r+1", 0, 0, 0), 2, gives("5-!r", 0, 0, 0), 4, gives("!(r<s)", 2, 1, 0), 1);
        due.are("15 wraps", gives("r*2", MAX, 0, 0), -2, gives("r+1", MAX, 0, 0), -99, gives("r/s=r", MIN, -1, 0), 1,
            gives("r%s", MIN, -1, 0), 0, gives("r-1>0", MIN, 0, 0), 1, gives("r*s", 65536, 65536, 0), 0);
        due.are("15 digits", gives("0099", 0, 0, 0), 99, gives("9999/1000", 0, 0, 0), 9, gives("0-9999", 0, 0, 0), -99);
    }

    private static void promise16() {
        UpAllRound x = Make.with(0, 0, 20, 4, 0, 0, 0, 7);
        due.are("16", x.minutes(0), BEYOND, x.minutes(201), BEYOND, x.minutes(MIN), BEYOND, x.count(2), 0,
            x.minutes(1), 1, x.count(2), 1, x.minutes(1), 3, x.climberIs(1, 2), 2, x.climberIs(3, 2), 1,
            x.climberIs(0, 3), 2, x.climberIs(1, 3), -2, x.minutes(200), 3, x.count(2), 202);
        UpAllRound y = new UpAllRound();
        for (int i = 0; i < 49; i++) {
            due.is("16 nobody goes", y.minutes(200), 0);
        }
        due.are("16 late", y.count(2), 9800, y.minutes(200), STATE, y.minutes(201), BEYOND, y.count(2), 9800, y.minutes(199), 0,
            y.count(2), 9999, y.minutes(1), STATE, y.loose(1), STATE, y.count(2), 9999);
    }

    private static void promise16Goes() {
        UpAllRound x = Make.with(0, 7, 12, 7, 20, 0, 31, 0, 41, 6, 52, 1);
        x.minutes(1);
        due.are("16 where", x.climberIs(0, 2), 0, x.climberIs(1, 2), 2, x.climberIs(2, 2), 7, x.climberIs(3, 2), 7,
            x.climberIs(4, 2), 0, x.climberIs(5, 2), 5);
        x.minutes(1);
        due.are("16 where then", x.climberIs(0, 2), 1, x.climberIs(1, 2), 5, x.climberIs(2, 2), 6, x.climberIs(3, 2), 0,
            x.climberIs(4, 2), 2, x.climberIs(5, 2), 1);
        UpAllRound lift = Make.with(69, 0);
        lift.minutes(1);
        due.is("16 a lift", lift.climberIs(0, 2), 2);
        lift.minutes(3);
        due.is("16 a lift stands", lift.climberIs(0, 2), 2);
        lift.minutes(1);
        due.are("16 a lift goes again", lift.climberIs(0, 2), 4, lift.climberIs(0, 3), 0);
    }

    private static void promise16Tallies() {
        UpAllRound x = Make.with(0, 0, 12, 0, 20, 3, 30, 3, 42, 0, 51, 3);
        x.rise(0, 5);
        x.rise(1, -4);
        x.rise(2, 0);
        x.hide(7);
        x.minutes(1);
        due.are("16 heights", x.climberIs(0, 3), 5, x.climberIs(1, 3), 1, x.climberIs(2, 3), 0, x.climberIs(3, 3), 0,
            x.climberIs(4, 3), 0, x.climberIs(5, 3), -2);
        x.carry(0, 7);
        x.carry(2, 0);
        x.carry(4, 7);
        x.carry(5, 1);
        x.minutes(1);
        due.are("16 none counts 0", x.climberIs(0, 3), 5, x.climberIs(2, 3), 0, x.climberIs(4, 3), 0,
            x.climberIs(5, 3), -2 - 10 - 2);
        UpAllRound y = Make.with(12, 0);
        Make.text(y, 0, "s*10+t");
        y.minutes(2);
        due.is("16 by a text", y.climberIs(0, 3), 0 + 10 + 20 + 31 + 41 + 51);
        UpAllRound held = Make.with(12, 0, 52, 0);
        held.rise(0, 9);
        held.rise(1, -9);
        held.rise(2, -1);
        held.height(0, 9995);
        held.height(1, -9998);
        held.minutes(1);
        due.are("16 held at each step", held.climberIs(0, 3), 9999 - 10, held.climberIs(1, 3), -9999);
    }

    private static void promise17() {
        UpAllRound x = new UpAllRound();
        due.are("17 nobody", x.loose(40), 0, x.count(8), 1, x.count(2), 40, x.loose(0), BEYOND, x.loose(41), BEYOND,
            x.loose(-1), BEYOND, x.count(2), 40);
        UpAllRound y = Make.with(0, 0, 20, 0);
        int z = 1;
        int[] at = {0, 0};
        for (int i = 0; i < 5; i++) {
            z = z * 1103515245 + 12345;
            int who = (z >>> 8) % 2;
            z = z * 1103515245 + 12345;
            at[who] = (z >>> 8) % 8;
            at[0] = (at[0] + 1) % 8;
            at[1] = (at[1] + 7) % 8;
            due.are("17 minute " + i, y.loose(1), at[0] == at[1] ? 1 : 0, y.count(8), z, y.climberIs(0, 2), at[0],
                y.climberIs(1, 2), at[1], y.climberIs(0, 3), i + 1, y.climberIs(1, 3), -i - 1);
        }
        UpAllRound late = Make.with(0, 0);
        for (int i = 0; i < 49; i++) {
            late.minutes(200);
        }
        late.minutes(160);
        due.are("17 late", late.loose(40), STATE, late.loose(41), BEYOND, late.count(8), 1, late.loose(39), 0,
            late.count(2), 9999);
    }

    private static void promise18() {
        UpAllRound x = Make.with(0, 0);
        due.are("18", x.seed(MIN), 1, x.seed(-1000000001), MIN, x.seed(7), -1000000001, x.count(8), 7, x.told(1), 0);
        x.loose(1);
        int z = 7 * 1103515245 + 12345;
        due.is("18 draws by it", x.count(8), z * 1103515245 + 12345);
    }

    private static void promise19() {
        UpAllRound x = Make.with(12, 0, 20, 5);
        due.are("19", x.then(0, 0, 0), 0, x.then(0, 0, 1), 0, x.then(3, 0, 0), 1, x.then(3, 0, 1), 9, x.then(200, 1, 0), 5,
            x.then(200, 1, 1), -200, x.then(201, 0, 0), BEYOND, x.then(-1, 0, 0), BEYOND, x.then(0, 2, 0), BEYOND,
            x.then(0, -1, 0), BEYOND, x.then(0, 0, 2), BEYOND, x.then(0, 0, -1), BEYOND, x.count(2), 0,
            x.climberIs(0, 2), 0, x.climberIs(0, 3), 0);
        Make.text(x, 0, "t");
        due.is("19 by minutes", x.then(4, 1, 1), -0 - 1 - 2 - 3);
        UpAllRound late = Make.with(0, 0);
        for (int i = 0; i < 49; i++) {
            late.minutes(200);
        }
        late.minutes(199);
        Make.text(late, 0, "t>9999+1");
        late.height(0, 0);
        due.are("19 beyond the last minute", late.count(2), 9999, late.then(5, 0, 1), 3, late.count(2), 9999);
    }

    private static void promise20() {
        UpAllRound x = Make.with(0, 0, 20, 4, 0, 1, 10, 0);
        due.are("20", x.meet(0, 1), 2, x.meet(1, 0), 2, x.meet(0, 2), NONE, x.meet(0, 3), 0, x.meet(0, 0), BEYOND,
            x.meet(0, 4), BEYOND, x.meet(4, 0), BEYOND, x.meet(-1, 0), BEYOND, x.meet(7, 7), BEYOND, x.count(2), 0);
        UpAllRound far = new UpAllRound();
        far.build(14);
        due.are("20 a drunk and a porter", far.climber(0, 0), 0, far.climber(38, 4), 1, far.meet(0, 1), 10);
        due.are("20 the last minute", meetLate(9, 37, 39, 1), 200, meetLate(16, 34, 35, 8), 200, meetLate(8, 37, 39, 10), NONE,
            meetLate(15, 34, 35, 6), NONE);
        UpAllRound lift = Make.with(0, 0, 64, 3);
        lift.minutes(2);
        due.are("20 by minutes", lift.carry(0, 0), 2, lift.carry(1, 3), 0, lift.meet(0, 1), 15);
    }

    /** Two, at 0 and another of eleven steps, so many minutes late. */
    private static int meetLate(int minutes, int km, int other, int step) {
        UpAllRound x = new UpAllRound();
        x.build(11);
        x.climber(km, 0);
        x.climber(other, 0);
        x.minutes(minutes);
        x.carry(0, 0);
        x.carry(1, step);
        return x.meet(0, 1);
    }

    private static void promise21() {
        UpAllRound x = Make.with(0, 3, 12, 0, 20, 0, 61, 0, 30, 0);
        x.rise(0, 4);
        x.height(0, 100);
        due.are("21", x.lap(0, 0), 8, x.lap(0, 1), 11, x.lap(1, 0), 8, x.lap(1, 1), 33, x.lap(2, 1), -11, x.lap(3, 0), 13,
            x.lap(3, 1), 0, x.lap(4, 0), 8, x.lap(5, 0), BEYOND, x.lap(-1, 0), BEYOND, x.lap(0, 2), BEYOND, x.lap(0, -1), BEYOND);
        x.minutes(1);
        due.are("21 a lift that stands", x.lap(3, 0), 1, x.lap(3, 1), 0);
        UpAllRound sway = Make.with(31, 0);
        due.are("21 there and back", sway.lap(0, 0), 2, sway.lap(0, 1), 0);
        UpAllRound top = Make.with(0, 0);
        top.height(0, 9998);
        due.is("21 held", top.lap(0, 1), 1);
        UpAllRound never = Make.with(0, 0);
        never.become(0, 67);
        due.are("21 a lift that goes all round", never.lap(0, 0), 1, never.told(2), 0);
    }

    private static void promise22() {
        UpAllRound x = new UpAllRound();
        due.are("22 nobody", x.together(), STATE, x.climber(0, 3), 0, x.together(), 0, x.climber(20, 7), 1, x.together(), 2,
            x.climber(0, 4), 2, x.together(), NONE, x.count(2), 0);
        due.are("22 the last minute", togetherOf(37, 8, 38, 7, 68, 11), 500, togetherOf(39, 4, 35, 7, 63, 8), 500,
            togetherOf(38, 11, 37, 12, 34, 10), NONE, togetherOf(4, 11, 39, 9, 36, 12), NONE);
    }

    private static int togetherOf(int... kmsAndSteps) {
        UpAllRound x = new UpAllRound();
        x.build(13);
        for (int i = 0; i < 6; i += 2) {
            x.climber(kmsAndSteps[i], kmsAndSteps[i + 1]);
        }
        return x.together();
    }

    private static void promise23() {
        UpAllRound x = new UpAllRound();
        due.are("23", x.dispute(), NONE, x.climber(0, 0), 0, x.dispute(), NONE, x.climber(0, 0), 1, x.dispute(), NONE,
            x.height(1, 1), 0, x.dispute(), 0, x.carry(1, 1), 0, x.dispute(), NONE, x.climber(20, 6), 2, x.dispute(), 3,
            x.count(2), 0);
        UpAllRound late = Make.with(0, 0, 40, 0);
        due.are("23 the last minute", Make.text(late, 0, "(t>198)*5"), 1, late.dispute(), 200, Make.text(late, 0, "(t>199)*5"), 1,
            late.dispute(), NONE);
        UpAllRound y = Make.with(0, 0, 20, 4);
        y.height(0, -4);
        due.are("23 alike when they meet first", y.meet(0, 1), 2, y.dispute(), 6);
    }

    private static void promise24() {
        UpAllRound x = new UpAllRound();
        due.are("24 ones", x.levels(8, 0), 0, x.levels(8, 1), 0, x.levels(0, 0), 8, x.levels(0, 1), 255, x.levels(5, 0), 3,
            x.levels(5, 1), 7, x.levels(9, 0), NONE, x.levels(-1, 1), NONE, x.levels(126, 0), NONE, x.levels(127, 0), BEYOND,
            x.levels(-127, 0), BEYOND, x.levels(0, 2), BEYOND, x.levels(0, -1), BEYOND, x.levels(MIN, 0), BEYOND);
        x.build(6);
        int[] rises = {2, 3, 5, -4, 0, 7};
        for (int i = 0; i < 6; i++) {
            x.rise(i, rises[i]);
        }
        due.are("24 mixed", x.levels(13, 0), 0, x.levels(8, 1), 4, x.levels(3, 1), 2 | 32, x.levels(3, 0), 2, x.levels(6, 1), 32,
            x.levels(17, 1), 8, x.levels(-4, 1), 1 | 2 | 4 | 32, x.levels(1, 1), 4 | 32, x.levels(10, 1), 2);
        x.hide(1);
        due.is("24 the one that is none counts as any", x.levels(10, 1), 2);
        x.build(14);
        for (int i = 0; i < 14; i++) {
            x.rise(i, i % 2 == 0 ? 9 : -9);
        }
        due.are("24 the least of several", x.levels(-63, 0), 7, x.levels(-63, 1), 0x1555, x.levels(63, 1), 0x2AAA,
            x.levels(9, 1), 2, x.levels(-9, 1), 1, x.levels(1, 0), NONE);
        for (int i = 0; i < 14; i++) {
            x.rise(i, 9);
        }
        due.are("24 the most", x.levels(126, 0), 0, x.levels(-126, 0), NONE, x.levels(0, 0), 14, x.levels(0, 1), 0x3FFF);
        for (int i = 0; i < 14; i++) {
            x.rise(i, -9);
        }
        due.are("24 the least", x.levels(-126, 0), 0, x.levels(126, 0), NONE, x.levels(0, 0), 14, x.levels(0, 1), 0x3FFF,
            x.levels(-117, 1), 1, x.levels(-9, 1), 0x1FFF, x.levels(-10, 1), NONE);
    }

    private static void promise25() {
        UpAllRound x = Make.with(0, 0, 20, 0);
        x.hide(2);
        Make.sheet(x, 0, 8, 1, 2, 3);
        due.are("25", x.suspects(0, 0), 256 | 0xF8, x.suspects(1, 0), 0, x.suspects(2, 0), BEYOND, x.suspects(-1, 0), BEYOND,
            x.suspects(0, 4), BEYOND, x.suspects(0, -1), BEYOND, x.suspects(0, 1), NONE, x.suspects(2, 1), BEYOND,
            x.count(3), 2, x.count(2), 0);
        Make.sheet(x, 0, 8, 1, 1, 2);
        due.is("25 that one", x.suspects(0, 0), 2);
        Make.sheet(x, 1, 32, -1, -2, -2, -3);
        due.is("25 down", x.suspects(1, 1), 1 << 5);
        Make.sheet(x, 2, 16);
        due.is("25 an empty sheet", x.suspects(0, 2), 511);
        x.rise(4, 0);
        Make.sheet(x, 3, 16, 1, 2, 3, 4, 4);
        due.is("25 a level one", x.suspects(0, 3), 256 | 0xF0);
    }

    private static void promise26() {
        UpAllRound x = Make.with(0, 0, 20, 5);
        due.are("26", x.best(0, 10, 0), 10, x.best(0, 10, 1), 10, x.best(0, 10, 2), 2, x.best(0, 0, 0), 0, x.best(0, 0, 2), 0,
            x.best(1, 10, 0), 0, x.best(1, 10, 1), 0, x.best(1, 10, 2), 5, x.best(0, 100, 0), 100, x.best(0, 101, 0), BEYOND,
            x.best(0, -1, 0), BEYOND, x.best(2, 0, 0), BEYOND, x.best(-1, 0, 0), BEYOND, x.best(0, 0, 3), BEYOND,
            x.best(0, 0, -1), BEYOND, x.count(2), 0);
        Make.text(x, 1, "s=6|c");
        due.are("26 the first", x.best(0, 100, 0), 1, x.best(0, 100, 1), 6, x.best(0, 100, 2), 6, x.best(1, 100, 1), 0);
        Make.text(x, 1, "s*100+h");
        x.rise(6, -9);
        due.are("26 by its height then", x.best(0, 7, 0), 697 + 0, x.best(0, 7, 1), 7);
    }

    private static void promise27() {
        UpAllRound x = Make.with(0, 0, 20, 4, 0, 4, 13, 0);
        due.are("27", x.odds(0, 1, 0, 0), 1, x.odds(0, 1, 0, 1), 8, x.odds(0, 1, 1, 0), 1, x.odds(0, 1, 1, 1), 4,
            x.odds(0, 1, 3, 0), 1, x.odds(0, 1, 3, 1), 2, x.odds(0, 1, 2, 0), 3, x.odds(0, 1, 2, 1), 8,
            x.odds(0, 2, 100, 0), 1, x.odds(0, 2, 100, 1), 8, x.odds(0, 1, 100, 0), 1, x.odds(0, 1, 100, 1), 2,
            x.odds(0, 0, 0, 0), BEYOND, x.odds(0, 4, 0, 0), BEYOND, x.odds(-1, 0, 0, 0), BEYOND, x.odds(0, 1, 101, 0), BEYOND,
            x.odds(0, 1, -1, 0), BEYOND, x.odds(0, 1, 0, 2), BEYOND, x.odds(0, 1, 0, -1), BEYOND, x.climberIs(0, 2), 0);
        UpAllRound y = new UpAllRound();
        y.build(5);
        y.climber(0, 0);
        y.climber(20, 4);
        due.are("27 sure", y.odds(1, 0, 4, 0), 1, y.odds(1, 0, 4, 1), 1);
    }

    private static void promise28() {
        UpAllRound x = Make.with(5, 0, 13, 0, 27, 0, 38, 0, 49, 0, 52, 0);
        due.are("28 porter", x.voice(0, 0, 7), 7, x.voice(0, 1, 7), 14, x.voice(0, 2, 7), 9, x.voice(0, 3, 17), 3,
            x.voice(0, 3, -17), -3);
        due.are("28 runner", x.voice(1, 0, 7), 4, x.voice(1, 1, 7), 8, x.voice(1, 2, 7), 5, x.voice(1, 3, 9), 4 + -4);
        due.are("28 descender", x.voice(2, 0, 7), 9, x.voice(2, 1, 7), -18, x.voice(2, 2, 7), -25, x.voice(2, 3, 16), 3);
        due.are("28 drunk", x.voice(3, 0, 7), 10, x.voice(3, 1, 7), 20, x.voice(3, 2, 7), 4, x.voice(3, 2, -7), -8,
            x.voice(3, 3, 16), 3);
        due.are("28 skipper", x.voice(4, 0, 7), 21, x.voice(4, 1, 7), 42, x.voice(4, 2, 7), 33 ^ 4,
            x.voice(4, 3, 11), 2 + 3 * 2);
        due.are("28 ball", x.voice(5, 0, 7), 12, x.voice(5, 1, 7), -26, x.voice(5, 2, 7), -28, x.voice(5, 3, 7), -2);
        x.become(2, 64);
        due.are("28 lift", x.voice(2, 0, 7), 9, x.voice(2, 1, 7), 22, x.voice(2, 2, 7), 18, x.voice(2, 3, 7), 3);
        x.become(2, 2);
        x.become(1, 11);
        due.are("28 parted", x.voice(2, 3, 7), PARTED, x.voice(1, 3, 7), PARTED, x.told(6), 2, x.voice(2, 4, 0), BEYOND,
            x.voice(2, -1, 0), BEYOND, x.voice(6, 0, 0), BEYOND, x.voice(-1, 3, 0), BEYOND);
        UpAllRound y = Make.with(0, 0, 0, 0);
        due.are("28 wraps", y.voice(0, 1, MAX), -2, y.voice(1, 0, MAX), MIN, y.voice(1, 3, MIN), MIN,
            y.voice(0, 0, BEYOND), BEYOND, y.voice(0, 0, PARTED), PARTED, y.told(1), 0, y.told(6), 0);
    }

    private static void promise29() {
        UpAllRound x = Make.with(5, 0, 13, 0, 27, 0, 38, 0, 49, 0, 52, 0);
        due.are("29 none yet", x.body(0), NONE, x.body(-1), NONE, x.count(7), 0);
        trace(x, 0, 0, 10);
        trace(x, 0, 1, 11, 10);
        trace(x, 0, 2, 12, 11, 10);
        trace(x, 0, 3, 13);
        trace(x, 1, 0, 20, 10);
        trace(x, 1, 3, 21, 13, 11, 20, 10);
        trace(x, 2, 2, 12, 30, 11, 10);
        trace(x, 3, 2, 40, 12, 11, 10);
        trace(x, 4, 0, 50, 20, 10);
        trace(x, 4, 2, 51, 12, 11, 50, 20, 10);
        trace(x, 4, 3, 21, 13, 11, 50, 20, 10);
        trace(x, 5, 1, 60, 30, 11, 10);
        trace(x, 5, 2, 12, 60, 30, 11, 10);
        due.are("29 a refused voice leaves it", x.voice(6, 0, 0), BEYOND, x.count(7), 5, x.body(0), 12);
        x.become(0, 60);
        trace(x, 0, 1, 71, 11, 70);
        trace(x, 0, 0, 70);
        x.become(1, 11);
        trace(x, 1, 3, 21, 13);
        x.become(1, 0);
        due.are("29 image leaves it", x.image(), 1, x.voice(0, 0, 0), 9, x.restore(), 0, x.count(7), 1, x.body(0), 70);
    }

    private static void trace(UpAllRound x, int climber, int voice, int... bodies) {
        x.voice(climber, voice, 3);
        due.is("29 how many", x.count(7), bodies.length);
        for (int i = 0; i < bodies.length; i++) {
            due.is("29 body " + i + " of " + climber + ", " + voice, x.body(i), bodies[i]);
        }
        due.are("29 ends", x.body(bodies.length), NONE, x.body(-1), NONE, x.body(MAX), NONE);
    }

    private static void promise30() {
        UpAllRound x = new UpAllRound();
        due.are("30", x.sheet(0, 8, 24), 1, x.put(0, 23, 1), 1, x.put(0, 24, 1), BEYOND, x.sheet(0, 16, 24), 1,
            x.sheet(3, 32, 0), 1, x.put(3, 0, 0), BEYOND, x.sheet(1, 0, -5), 1, x.sheet(1, 0, 99), 1, x.put(1, 0, 0), NONE,
            x.sheet(0, 0, 3), 1, x.put(0, 0, 0), NONE);
        due.are("30 wrong", x.sheet(4, 8, 1), BEYOND, x.sheet(-1, 8, 1), BEYOND, x.sheet(0, 7, 1), BEYOND,
            x.sheet(0, -8, 1), BEYOND, x.sheet(0, 64, 1), BEYOND, x.sheet(0, 8, -1), STATE, x.sheet(0, 8, MIN), STATE,
            x.sheet(0, 8, 25), BEYOND, x.sheet(4, 8, -1), BEYOND, x.sheet(0, 9, -1), BEYOND, x.sheet(4, 0, 1), BEYOND,
            x.rises(0), NONE);
        x.climber(0, 0);
        Make.sheet(x, 0, 8, 5, 6);
        x.sheet(0, 8, 2);
        due.are("30 all 0 again", x.judge(0), 1, x.suspects(0, 0), 0, x.rises(0), 2, x.stepIs(1, 0), 0);
    }

    private static void promise31() {
        UpAllRound x = Make.with(0, 0);
        x.sheet(0, 8, 2);
        x.sheet(1, 16, 2);
        x.sheet(2, 32, 2);
        due.are("31", x.put(0, 0, 256), 1, x.judge(0), 1, x.put(0, 0, 255), 1, x.rises(0), 2, x.stepIs(0, 0), -1,
            x.put(0, 1, 128), 1, x.rises(0), 1, x.put(1, 0, 65536 + 4), 1, x.put(1, 1, 256), 1, x.rises(1), 1, x.stepIs(0, 0), 4,
            x.put(2, 0, 65536 + 4), 1, x.rises(2), 0, x.put(2, 0, -9), 1, x.rises(2), 2, x.stepIs(0, 0), -9,
            x.put(1, 0, 65535), 1, x.rises(1), 1, x.stepIs(0, 0), -1);
        due.are("31 wrong", x.put(4, 0, 0), BEYOND, x.put(-1, 0, 0), BEYOND, x.put(3, 9, 0), NONE, x.put(0, 2, 0), BEYOND,
            x.put(0, -1, 0), BEYOND, x.put(0, MAX, 0), BEYOND, x.put(0, MIN, 0), BEYOND);
    }

    private static void promise32() {
        UpAllRound x = new UpAllRound();
        Make.sheet(x, 0, 8, 1, 2, 3, 4, 5);
        Make.sheet(x, 1, 8, 0, 0, 0);
        Make.sheet(x, 2, 16, 0, 0, 0);
        due.are("32", x.move(0, 3, 1, 1, 2), 2, x.rises(1), 3, x.stepIs(0, 0), 0, x.stepIs(1, 0), 4, x.stepIs(2, 0), 5,
            x.move(0, 0, 0, 1, 4), 4, x.rises(0), 5, x.stepIs(0, 0), 1, x.stepIs(1, 0), 1, x.stepIs(2, 0), 2,
            x.stepIs(4, 0), 4, x.move(0, 1, 0, 0, 4), 4, x.rises(0), 5, x.stepIs(0, 0), 1, x.stepIs(1, 0), 2, x.stepIs(3, 0), 4,
            x.move(0, 0, 0, 0, 5), 5, x.move(1, 0, 0, 2, 3), 3, x.rises(0), 5, x.stepIs(1, 0), 2, x.stepIs(3, 0), 4,
            x.stepIs(4, 0), 5, x.move(0, 5, 1, 3, 0), 0, x.move(0, 0, 1, 0, 0), 0);
        due.are("32 wrong", x.move(4, 0, 3, 0, -1), BEYOND, x.move(0, 0, -1, 0, 0), BEYOND, x.move(-1, 0, 0, 0, 0),
            BEYOND, x.move(0, 0, 4, 0, 0), BEYOND, x.move(0, 0, 3, 0, -1), NONE,
            x.move(3, 0, 0, 0, -1), NONE, x.move(0, 0, 2, 0, -1), KIND, x.move(0, 0, 1, 0, -1), BEYOND,
            x.move(0, -1, 1, 0, 1), BEYOND, x.move(0, 0, 1, -1, 1), BEYOND, x.move(0, 0, 1, 0, 4), BEYOND,
            x.move(0, 5, 1, 0, 1), BEYOND, x.move(0, 0, 1, 3, 1), BEYOND, x.move(0, 6, 1, 0, 0), BEYOND,
            x.move(0, MAX, 1, 0, MAX), BEYOND, x.move(0, 1, 1, 1, MAX), BEYOND, x.move(0, MAX, 1, MAX, 1), BEYOND);
    }

    private static void promise33() {
        UpAllRound x = new UpAllRound();
        Make.sheet(x, 0, 8, 9, -9, 0, 10, 5);
        due.are("33", x.rises(0), 3, x.stepIs(0, 0), 9, x.stepIs(1, 0), -9, x.stepIs(2, 0), 0, x.stepIs(3, 0), 1,
            x.stepIs(4, 0), 1, x.put(0, 0, -10), 1, x.rises(0), 0, x.stepIs(0, 0), 9);
        Make.sheet(x, 1, 32, 2, 2, 2, 2, 2, 2, 2, 3, 4, 5);
        Make.sheet(x, 2, 16, 4, 5);
        due.are("33 fewer", x.rises(2), 2, x.stepIs(1, 0), 5, x.stepIs(2, 0), 0, x.rise(2, 1), 0, x.rises(2), 2,
            x.stepIs(2, 0), 1,
            x.sheet(2, 0, 0), 1);
        due.are("33 no step", x.rises(1), 8, x.stepIs(7, 0), 3, x.sheet(1, 32, 0), 1, x.rises(1), 0,
            x.rises(2), NONE, x.rises(4), BEYOND, x.rises(-1), BEYOND, x.told(1), 2);
    }

    private static void promise34() {
        UpAllRound x = Make.with(0, 3, 0, 0, 0, 7);
        Make.sheet(x, 0, 8, 3, 0, 7, 0);
        due.are("34", x.judge(0), 3, x.put(0, 0, 4), 1, x.judge(0), 0, x.put(0, 0, 3), 1, x.put(0, 1, 1), 1, x.judge(0), 1,
            x.judge(1), NONE, x.judge(3), NONE, x.judge(4), BEYOND, x.judge(-1), BEYOND, x.climberIs(1, 2), 0);
        Make.sheet(x, 1, 8, 3);
        due.are("34 fewer", x.judge(1), 1, x.sheet(1, 8, 0), 1, x.judge(1), 0);
    }

    private static void promise35and36() {
        UpAllRound x = Make.with(0, 3, 12, 4);
        due.is("36 none", x.restore(), NONE);
        x.minutes(7);
        x.rise(2, 5);
        x.hide(3);
        Make.text(x, 0, "r+1");
        Make.feed(x, "r+2");
        x.tell(4);
        x.seed(99);
        int height = x.climberIs(0, 3);
        int place = x.climberIs(1, 2);
        due.is("35", x.image(), 1);
        x.climber(20, 0);
        x.become(0, 33);
        x.loose(5);
        x.rise(2, 6);
        x.hide(-1);
        x.untell(0);
        x.text(0);
        Make.text(x, 1, "7777");
        x.check();
        x.tell(height);
        x.tell(4);
        x.sheet(0, 8, 3);
        due.are("36", x.restore(), 7, x.count(0), 2, x.count(2), 7, x.count(3), 3, x.count(5), 3, x.count(6), 1, x.count(8), 99,
            x.stepIs(2, 0), 5, x.climberIs(0, 0), 0, x.climberIs(0, 3), height, x.climberIs(1, 2), place,
            x.law(0, 5, 0, 0), 6, x.law(1, 0, 5, 0), 5, x.judge(0), 0, x.text(0), 1, x.law(0, 5, 0, 0), 7, x.count(5),
            0, x.check(), 1);
        due.are("36 stays", x.minutes(3), 0, x.restore(), 7, x.restore(), 7, x.count(5), 3, x.minutes(1), 0, x.image(), 2,
            x.minutes(1), 0, x.restore(), 8, x.image(), 3, x.told(2), 1);
        UpAllRound y = new UpAllRound();
        y.build(12);
        y.rise(11, 4);
        y.image();
        y.build(5);
        due.are("36 steps", y.restore(), 0, y.count(1), 12, y.stepIs(11, 0), 4, y.climber(0, 11), 0, y.restore(), 0,
            y.count(0), 0);
    }

    private static void promise37() {
        UpAllRound x = new UpAllRound();
        for (int i = 1; i <= 24; i++) {
            due.is("37", x.tell(MIN), i);
        }
        due.are("37 full", x.tell(0), FULL, x.count(6), 24, x.told(4), 1, x.check(), 1, x.tell(0), 1);
    }

    private static void promise38() {
        UpAllRound x = Make.with(0, 0, 0, 0);
        x.height(1, 5);
        due.are("38", x.check(), 0, x.tell(0), 1, x.tell(5), 2, x.check(), 0, x.count(6), 0, x.tell(0), 1, x.tell(4), 2,
            x.check(), 2, x.count(6), 0, x.tell(1), 1, x.check(), 1, x.tell(0), 1, x.tell(5), 2, x.tell(0), 3, x.check(), 3,
            x.climberIs(1, 3), 5, x.check(), 0);
    }

    private static void promise39() {
        UpAllRound x = Make.with(0, 3, 0, 3, 0, 3);
        x.minutes(2);
        x.hide(6);
        Make.feed(x, "ab");
        x.tell(1);
        x.voice(0, 1, 1);
        x.seed(-5);
        due.are("39", x.count(0), 3, x.count(1), 8, x.count(2), 2, x.count(3), 6, x.count(4), 3, x.count(5), 2, x.count(6), 1,
            x.count(7), 2, x.count(8), -5, x.count(9), BEYOND, x.count(-1), BEYOND, x.count(MAX), BEYOND);
    }

    private static void promise40() {
        UpAllRound x = new UpAllRound();
        for (int k = 1; k <= 6; k++) {
            due.is("40 at first", x.told(k), 0);
        }
        due.are("40 beyond", x.told(0), BEYOND, x.told(7), BEYOND, x.told(-1), BEYOND, x.told(1), 3, x.told(1), 3);
        x.climber(0, 0);
        x.restore();
        x.build(5);
        x.as(0, 1);
        x.voice(0, 3, 1);
        for (int i = 0; i < 25; i++) {
            x.tell(0);
        }
        due.are("40", x.told(1), 3, x.told(2), 1, x.told(3), 1, x.told(4), 1, x.told(5), 1, x.told(6), 1);
        x.seed(-1000000001);
        due.are("40 an answer that is no error", x.seed(0), -1000000001, x.text(0), -10, x.told(1), 3);
        x.image();
        x.count(9);
        x.restore();
        due.is("40 an image leaves it", x.told(1), 4);
    }
}
