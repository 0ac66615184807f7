import java.util.Arrays;

/** A stair that goes up on every side and comes to its own foot, and those who climb it. */
public final class UpAllRound {
    private static final int LOW = -1000000000;
    private static final int BEYOND = 1;
    private static final int NONE = 2;
    private static final int STATE = 3;
    private static final int FULL = 4;
    private static final int KIND = 5;
    private static final int PARTED = 6;
    private static final int ERRORS = 6;

    private static final int FEWEST_STEPS = 4;
    private static final int MOST_STEPS = 14;
    private static final int FIRST_STEPS = 8;
    private static final int NO_ONE = -1;
    private static final int MOST_RISE = 9;
    private static final int MOST_RISES = MOST_STEPS * MOST_RISE;
    private static final int MOST_CLIMBERS = 6;
    private static final int MOST_HEIGHT = 9999;
    private static final int MOST_MINUTE = 9999;
    private static final int MOST_TAPE = 60;
    private static final int MOST_OPEN = 5;
    private static final int MOST_DIGITS = 4;
    private static final int MOST_WAITING = 24;
    private static final int MOST_TRACE = 30;
    private static final int SHEETS = 4;
    private static final int MOST_NUMBERS = 24;

    private static final int FAR = 200;
    private static final int FARTHEST = 500;
    private static final int NEAR = 100;
    private static final int MOST_LOOSE = 40;

    private static final int PORTER = 0;
    private static final int RUNNER = 1;
    private static final int DESCENDER = 2;
    private static final int DRUNK = 3;
    private static final int SKIPPER = 4;
    private static final int BALL = 5;
    private static final int LIFT = 6;
    private static final int KINDS = 7;
    private static final int[] KIND_ABOVE = {-1, PORTER, PORTER, PORTER, RUNNER, DESCENDER, PORTER};
    private static final int MOST_KM = KINDS * 10 - 1;

    private static final int COUNTED = 0;
    private static final int WORTH = 1;

    private static final int PANTS = 0;
    private static final int COUNTS = 1;
    private static final int SWEARS = 2;
    private static final int PARTS = 3;
    private static final int VOICES = 4;

    /** More than any set of steps has, and still small enough to add to. */
    private static final int TOO_MANY = 99;

    private final Stair now = new Stair();
    private final Stair kept = new Stair();
    private final Stair thought = new Stair();
    private final Reader reader = new Reader();
    private final Voices voices = new Voices();
    private final Sheets sheets = new Sheets();
    /** Row k, column MOST_RISES + s: how few of the first k steps have rises that make s. */
    private final int[][] fewest = new int[MOST_STEPS + 1][2 * MOST_RISES + 1];
    private final int[] refusals = new int[ERRORS + 1];
    private int images = 0;

    public UpAllRound() {
    }

    // ---- steps, climbers

    public int build(int n) {
        if (isOutside(n, FEWEST_STEPS, MOST_STEPS)) {
            return refuse(BEYOND);
        }
        if (now.climbers > 0) {
            return refuse(STATE);
        }
        int had = now.steps;
        now.lay(n);
        return had;
    }

    public int rise(int step, int v) {
        if (!now.hasStep(step) || isOutside(v, -MOST_RISE, MOST_RISE)) {
            return refuse(BEYOND);
        }
        int was = now.rises[step];
        now.rises[step] = v;
        return was;
    }

    public int stepIs(int step, int what) {
        if (!now.hasStep(step) || isOutside(what, 0, 2)) {
            return refuse(BEYOND);
        }
        switch (what) {
            case 0:
                return now.rises[step];
            case 1:
                return now.none == step ? 1 : 0;
            default:
                return now.climbersAt(step);
        }
    }

    public int hide(int step) {
        if (step != NO_ONE && !now.hasStep(step)) {
            return refuse(BEYOND);
        }
        int was = now.none;
        now.none = step;
        return was;
    }

    public int climber(int km, int step) {
        if (isOutside(km, 0, MOST_KM) || !now.hasStep(step)) {
            return refuse(BEYOND);
        }
        if (now.climbers >= MOST_CLIMBERS) {
            return refuse(FULL);
        }
        return now.takeOn(km, step);
    }

    public int climberIs(int climber, int what) {
        if (!now.hasClimber(climber) || isOutside(what, 0, 4)) {
            return refuse(BEYOND);
        }
        switch (what) {
            case 0:
                return now.kinds[climber];
            case 1:
                return now.numbers[climber];
            case 2:
                return now.places[climber];
            case 3:
                return now.heights[climber];
            default:
                return now.goes(climber);
        }
    }

    public int become(int climber, int km) {
        if (!now.hasClimber(climber) || isOutside(km, 0, MOST_KM)) {
            return refuse(BEYOND);
        }
        int was = now.kinds[climber];
        now.kinds[climber] = km / 10;
        now.numbers[climber] = km % 10;
        return was;
    }

    public int as(int climber, int kind) {
        if (!now.hasClimber(climber) || isOutside(kind, 0, KINDS - 1)) {
            return refuse(BEYOND);
        }
        if (!isUnder(now.kinds[climber], kind)) {
            return refuse(KIND);
        }
        return now.numbers[climber];
    }

    public int carry(int climber, int step) {
        if (!now.hasClimber(climber) || !now.hasStep(step)) {
            return refuse(BEYOND);
        }
        int was = now.places[climber];
        now.places[climber] = step;
        return was;
    }

    public int height(int climber, int v) {
        if (!now.hasClimber(climber) || isOutside(v, -MOST_HEIGHT, MOST_HEIGHT)) {
            return refuse(BEYOND);
        }
        int was = now.heights[climber];
        now.heights[climber] = v;
        return was;
    }

    // ---- texts

    public int feed(long word, int n) {
        if (isOutside(n, 1, 8)) {
            return refuse(BEYOND);
        }
        if (now.taped + n > MOST_TAPE) {
            return refuse(FULL);
        }
        for (int i = 0; i < n; i++) {
            now.tape[now.taped] = (int) (word >>> (8 * i)) & 255;
            now.taped++;
        }
        return now.taped;
    }

    public int text(int use) {
        if (isOutside(use, COUNTED, WORTH)) {
            return refuse(BEYOND);
        }
        boolean whole = reader.reads(now.tape, now.taped, use == COUNTED ? "rst" : "shc");
        now.taped = 0;
        if (!whole) {
            return -10 - reader.place;
        }
        now.lawOf(use).copy(reader.law);
        return 1;
    }

    public int untell(int use) {
        if (isOutside(use, COUNTED, WORTH)) {
            return refuse(BEYOND);
        }
        Law law = now.lawOf(use);
        int was = law.stands() ? 1 : 0;
        law.clear();
        return was;
    }

    public int law(int use, int a, int b, int c) {
        if (isOutside(use, COUNTED, WORTH)) {
            return refuse(BEYOND);
        }
        return use == COUNTED ? now.countedOf(a, b, c) : now.worthOf(a, b, c);
    }

    // ---- minutes

    public int minutes(int n) {
        if (isOutside(n, 1, FAR)) {
            return refuse(BEYOND);
        }
        if (now.minute + n > MOST_MINUTE) {
            return refuse(STATE);
        }
        for (int i = 0; i < n; i++) {
            now.pass();
        }
        return now.pairs();
    }

    public int loose(int n) {
        if (isOutside(n, 1, MOST_LOOSE)) {
            return refuse(BEYOND);
        }
        if (now.minute + n > MOST_MINUTE) {
            return refuse(STATE);
        }
        for (int i = 0; i < n; i++) {
            now.drift();
            now.pass();
        }
        return now.pairs();
    }

    public int seed(int v) {
        int was = now.z;
        now.z = v;
        return was;
    }

    // ---- what would be

    public int then(int n, int climber, int what) {
        if (isOutside(n, 0, FAR) || !now.hasClimber(climber) || isOutside(what, 0, 1)) {
            return refuse(BEYOND);
        }
        thought.copyWalk(now);
        for (int i = 0; i < n; i++) {
            thought.passFor(climber);
        }
        return what == 0 ? thought.places[climber] : thought.heights[climber];
    }

    public int meet(int one, int other) {
        if (!isPair(one, other)) {
            return refuse(BEYOND);
        }
        thought.copyWalk(now);
        int behind = thought.meetingBy(one, other, FAR);
        return behind < 0 ? refuse(NONE) : behind;
    }

    public int lap(int climber, int what) {
        if (!now.hasClimber(climber) || isOutside(what, 0, 1)) {
            return refuse(BEYOND);
        }
        thought.copyWalk(now);
        for (int behind = 1; behind <= FAR; behind++) {
            thought.passFor(climber);
            if (thought.places[climber] == now.places[climber]) {
                return what == 0 ? behind : thought.heights[climber] - now.heights[climber];
            }
        }
        return refuse(NONE);
    }

    public int together() {
        if (now.climbers == 0) {
            return refuse(STATE);
        }
        thought.copyWalk(now);
        for (int behind = 0; behind <= FARTHEST; behind++) {
            if (thought.climbersAt(thought.places[0]) == thought.climbers) {
                return behind;
            }
            thought.passUncounted();
        }
        return refuse(NONE);
    }

    public int dispute() {
        thought.copyWalk(now);
        for (int behind = 0; behind <= FAR; behind++) {
            if (thought.hasDispute()) {
                return behind;
            }
            thought.pass();
        }
        return refuse(NONE);
    }

    public int levels(int v, int what) {
        if (isOutside(v, -MOST_RISES, MOST_RISES) || isOutside(what, 0, 1)) {
            return refuse(BEYOND);
        }
        int over = now.allRises() - v;
        if (isOutside(over, -MOST_RISES, MOST_RISES)) {
            return refuse(NONE);
        }
        countFewest();
        int few = fewest[now.steps][MOST_RISES + over];
        if (few >= TOO_MANY) {
            return refuse(NONE);
        }
        return what == 0 ? few : leastSet(over);
    }

    public int suspects(int climber, int sheet) {
        if (!now.hasClimber(climber) || isOutside(sheet, 0, SHEETS - 1)) {
            return refuse(BEYOND);
        }
        if (sheets.isMissing(sheet)) {
            return refuse(NONE);
        }
        int set = 0;
        for (int step = 0; step <= now.steps; step++) {
            thought.copyWalk(now);
            thought.none = step < now.steps ? step : NO_ONE;
            if (thought.goesAs(climber, sheets.numbers[sheet], sheets.sizes[sheet])) {
                set |= 1 << step;
            }
        }
        return set;
    }

    public int best(int climber, int n, int what) {
        if (!now.hasClimber(climber) || isOutside(n, 0, NEAR) || isOutside(what, 0, 2)) {
            return refuse(BEYOND);
        }
        thought.copyWalk(now);
        int most = -1;
        int first = 0;
        int where = 0;
        for (int behind = 0; behind <= n; behind++) {
            int place = thought.places[climber];
            int worth = thought.worthOf(place, thought.heights[climber], climber);
            if (worth > most) {
                most = worth;
                first = behind;
                where = place;
            }
            thought.passFor(climber);
        }
        return what == 0 ? most : what == 1 ? first : where;
    }

    public int odds(int one, int other, int n, int part) {
        if (!isPair(one, other) || isOutside(n, 0, NEAR) || isOutside(part, 0, 1)) {
            return refuse(BEYOND);
        }
        int met = 0;
        for (int step = 0; step < now.steps; step++) {
            thought.copyWalk(now);
            thought.places[one] = step;
            if (thought.meetingBy(one, other, n) >= 0) {
                met++;
            }
        }
        return inLowestTerms(met, now.steps, part);
    }

    // ---- voices, sheets, images, what is told

    public int voice(int climber, int voice, int x) {
        if (!now.hasClimber(climber) || isOutside(voice, 0, VOICES - 1)) {
            return refuse(BEYOND);
        }
        int said = voices.speak(now.kinds[climber], climber, now.numbers[climber], voice, x);
        return voices.parted ? refuse(PARTED) : said;
    }

    public int body(int i) {
        if (isOutside(i, 0, voices.traced - 1)) {
            return refuse(NONE);
        }
        return voices.trace[i];
    }

    public int sheet(int sheet, int bits, int n) {
        boolean known = bits == 0 || bits == 8 || bits == 16 || bits == 32;
        if (isOutside(sheet, 0, SHEETS - 1) || !known) {
            return refuse(BEYOND);
        }
        if (bits != 0 && n < 0) {
            return refuse(STATE);
        }
        if (bits != 0 && n > MOST_NUMBERS) {
            return refuse(BEYOND);
        }
        sheets.lay(sheet, bits, bits == 0 ? 0 : n);
        return 1;
    }

    public int put(int sheet, int i, int v) {
        if (isOutside(sheet, 0, SHEETS - 1)) {
            return refuse(BEYOND);
        }
        if (sheets.isMissing(sheet)) {
            return refuse(NONE);
        }
        if (isOutside(i, 0, sheets.sizes[sheet] - 1)) {
            return refuse(BEYOND);
        }
        int unused = 32 - sheets.bits[sheet];
        sheets.numbers[sheet][i] = v << unused >> unused;
        return 1;
    }

    public int move(int sheet, int i, int other, int j, int n) {
        if (isOutside(sheet, 0, SHEETS - 1) || isOutside(other, 0, SHEETS - 1)) {
            return refuse(BEYOND);
        }
        if (sheets.isMissing(sheet) || sheets.isMissing(other)) {
            return refuse(NONE);
        }
        if (sheets.bits[sheet] != sheets.bits[other]) {
            return refuse(KIND);
        }
        if (!sheets.holds(sheet, i, n) || !sheets.holds(other, j, n)) {
            return refuse(BEYOND);
        }
        System.arraycopy(sheets.numbers[sheet], i, sheets.numbers[other], j, n);
        return n;
    }

    public int rises(int sheet) {
        if (isOutside(sheet, 0, SHEETS - 1)) {
            return refuse(BEYOND);
        }
        if (sheets.isMissing(sheet)) {
            return refuse(NONE);
        }
        int most = Math.min(sheets.sizes[sheet], now.steps);
        for (int i = 0; i < most; i++) {
            int v = sheets.numbers[sheet][i];
            if (isOutside(v, -MOST_RISE, MOST_RISE)) {
                return i;
            }
            now.rises[i] = v;
        }
        return most;
    }

    public int judge(int sheet) {
        if (isOutside(sheet, 0, SHEETS - 1)) {
            return refuse(BEYOND);
        }
        if (sheets.isMissing(sheet)) {
            return refuse(NONE);
        }
        int most = Math.min(sheets.sizes[sheet], now.climbers);
        for (int i = 0; i < most; i++) {
            if (sheets.numbers[sheet][i] != now.places[i]) {
                return i;
            }
        }
        return most;
    }

    public int image() {
        kept.copyAll(now);
        images++;
        return images;
    }

    public int restore() {
        if (images == 0) {
            return refuse(NONE);
        }
        now.copyAll(kept);
        return now.minute;
    }

    public int tell(int v) {
        if (now.waits >= MOST_WAITING) {
            return refuse(FULL);
        }
        now.waiting[now.waits] = v;
        now.waits++;
        return now.waits;
    }

    public int check() {
        int said = now.waits;
        now.waits = 0;
        for (int i = 0; i < said; i++) {
            if (!now.hasClimber(i) || now.waiting[i] != now.heights[i]) {
                return 1 + i;
            }
        }
        return 0;
    }

    public int count(int what) {
        switch (what) {
            case 0:
                return now.climbers;
            case 1:
                return now.steps;
            case 2:
                return now.minute;
            case 3:
                return now.none;
            case 4:
                return now.pairs();
            case 5:
                return now.taped;
            case 6:
                return now.waits;
            case 7:
                return voices.traced;
            case 8:
                return now.z;
            default:
                return refuse(BEYOND);
        }
    }

    public int told(int k) {
        if (isOutside(k, 1, ERRORS)) {
            return refuse(BEYOND);
        }
        return refusals[k];
    }

    private int refuse(int k) {
        refusals[k]++;
        return LOW - k;
    }

    private boolean isPair(int one, int other) {
        return now.hasClimber(one) && now.hasClimber(other) && one != other;
    }

    /** A table in place of all sets: fourteen steps have 16384 of them. */
    private void countFewest() {
        Arrays.fill(fewest[0], TOO_MANY);
        fewest[0][MOST_RISES] = 0;
        for (int step = 0; step < now.steps; step++) {
            for (int sum = 0; sum <= 2 * MOST_RISES; sum++) {
                int before = sum - now.rises[step];
                int with = TOO_MANY;
                if (!isOutside(before, 0, 2 * MOST_RISES)) {
                    with = fewest[step][before] + 1;
                }
                fewest[step + 1][sum] = Math.min(TOO_MANY, Math.min(with, fewest[step][sum]));
            }
        }
    }

    /** From the highest step down: a set that can do without the higher one is the lesser. */
    private int leastSet(int over) {
        int set = 0;
        int sum = MOST_RISES + over;
        for (int step = now.steps - 1; step >= 0 && !isOutside(sum, 0, 2 * MOST_RISES); step--) {
            if (fewest[step][sum] != fewest[step + 1][sum]) {
                set |= 1 << step;
                sum -= now.rises[step];
            }
        }
        return set;
    }

    private static boolean isOutside(int v, int least, int most) {
        return v < least || v > most;
    }

    private static boolean isMultiple(int v, int of) {
        return of != 0 && v % of == 0;
    }

    private static int held(int v, int least, int most) {
        return Math.max(least, Math.min(most, v));
    }

    private static int inLowestTerms(int above, int below, int part) {
        for (int common = below; common > 1; common--) {
            if (above % common == 0 && below % common == 0) {
                return (part == 0 ? above : below) / common;
            }
        }
        return part == 0 ? above : below;
    }

    private static boolean isUnder(int kind, int top) {
        int k = kind;
        for (int i = 0; i < KINDS && !isOutside(k, 0, KINDS - 1); i++) {
            if (k == top) {
                return true;
            }
            k = KIND_ABOVE[k];
        }
        return false;
    }

    /** All that an image keeps; one more of it serves to think ahead. */
    private static final class Stair {
        private int steps;
        private final int[] rises = new int[MOST_STEPS];
        private int none;
        private int minute = 0;
        private int climbers = 0;
        private final int[] kinds = new int[MOST_CLIMBERS];
        private final int[] numbers = new int[MOST_CLIMBERS];
        private final int[] places = new int[MOST_CLIMBERS];
        private final int[] heights = new int[MOST_CLIMBERS];
        private final Law counted = new Law();
        private final Law worth = new Law();
        private int z = 1;
        private final int[] tape = new int[MOST_TAPE];
        private int taped = 0;
        private final int[] waiting = new int[MOST_WAITING];
        private int waits = 0;

        private Stair() {
            lay(FIRST_STEPS);
        }

        private void lay(int n) {
            steps = n;
            none = NO_ONE;
            Arrays.fill(rises, 1);
        }

        private boolean hasStep(int step) {
            return step >= 0 && step < steps;
        }

        private boolean hasClimber(int climber) {
            return climber >= 0 && climber < climbers;
        }

        private int takeOn(int km, int step) {
            int climber = climbers;
            kinds[climber] = km / 10;
            numbers[climber] = km % 10;
            places[climber] = step;
            heights[climber] = 0;
            climbers++;
            return climber;
        }

        private int climbersAt(int step) {
            int there = 0;
            for (int i = 0; i < climbers; i++) {
                if (places[i] == step) {
                    there++;
                }
            }
            return there;
        }

        private int pairs() {
            int pairs = 0;
            for (int i = 0; i < climbers; i++) {
                for (int j = i + 1; j < climbers; j++) {
                    if (places[i] == places[j]) {
                        pairs++;
                    }
                }
            }
            return pairs;
        }

        private boolean hasDispute() {
            for (int i = 0; i < climbers; i++) {
                for (int j = i + 1; j < climbers; j++) {
                    if (places[i] == places[j] && heights[i] != heights[j]) {
                        return true;
                    }
                }
            }
            return false;
        }

        private int allRises() {
            int sum = 0;
            for (int i = 0; i < steps; i++) {
                sum += rises[i];
            }
            return sum;
        }

        private Law lawOf(int use) {
            return use == COUNTED ? counted : worth;
        }

        private int countedOf(int rise, int step, int time) {
            return held(counted.stands() ? counted.work(rise, step, time) : rise, -99, 99);
        }

        private int worthOf(int step, int height, int climber) {
            return held(worth.stands() ? worth.work(step, height, climber) : height, 0, 999);
        }

        private int goes(int climber) {
            int m = numbers[climber];
            switch (kinds[climber]) {
                case RUNNER:
                case SKIPPER:
                    return 1 + m % 3;
                case DESCENDER:
                    return -1;
                case DRUNK:
                    return isMultiple(minute, m + 1) ? -1 : 1;
                case BALL:
                    return -2 - m % 3;
                case LIFT:
                    return isMultiple(minute, 4) ? m + 1 : 0;
                default:
                    return 1;
            }
        }

        private int tally(int climber, int step) {
            int kind = kinds[climber];
            if (step == none || kind == LIFT) {
                return 0;
            }
            int v = countedOf(rises[step], step, minute);
            switch (kind) {
                case SKIPPER:
                    return Integer.compare(v, 0);
                case BALL:
                    return 2 * v;
                default:
                    return v;
            }
        }

        private int ring(int place) {
            return steps > 0 ? Math.floorMod(place, steps) : 0;
        }

        private void go(int climber) {
            int goes = goes(climber);
            int place = places[climber];
            int height = heights[climber];
            for (int i = 0; i < goes; i++) {
                height = held(height + tally(climber, place), -MOST_HEIGHT, MOST_HEIGHT);
                place = ring(place + 1);
            }
            for (int i = 0; i > goes; i--) {
                place = ring(place - 1);
                height = held(height - tally(climber, place), -MOST_HEIGHT, MOST_HEIGHT);
            }
            places[climber] = place;
            heights[climber] = height;
        }

        private void pass() {
            for (int i = 0; i < climbers; i++) {
                go(i);
            }
            minute++;
        }

        /** No climber's way depends on another's, so one can go alone. */
        private void passFor(int climber) {
            go(climber);
            minute++;
        }

        private boolean goesAs(int climber, int[] said, int size) {
            for (int i = 0; i < size && i < said.length; i++) {
                passFor(climber);
                if (heights[climber] != said[i]) {
                    return false;
                }
            }
            return true;
        }

        /** Where climbers are does not depend on their heights, so these may be left as they are. */
        private void passUncounted() {
            for (int i = 0; i < climbers; i++) {
                places[i] = ring(places[i] + goes(i));
            }
            minute++;
        }

        private int meetingBy(int one, int other, int most) {
            for (int behind = 0; behind <= most; behind++) {
                if (places[one] == places[other]) {
                    return behind;
                }
                passUncounted();
            }
            return -1;
        }

        private int draw() {
            z = z * 1103515245 + 12345;
            return z >>> 8;
        }

        private void drift() {
            if (climbers > 0 && steps > 0) {
                int climber = draw() % climbers;
                places[climber] = draw() % steps;
            }
        }

        /** What minutes need, and no more. */
        private void copyWalk(Stair from) {
            steps = from.steps;
            System.arraycopy(from.rises, 0, rises, 0, MOST_STEPS);
            none = from.none;
            minute = from.minute;
            climbers = from.climbers;
            System.arraycopy(from.kinds, 0, kinds, 0, MOST_CLIMBERS);
            System.arraycopy(from.numbers, 0, numbers, 0, MOST_CLIMBERS);
            System.arraycopy(from.places, 0, places, 0, MOST_CLIMBERS);
            System.arraycopy(from.heights, 0, heights, 0, MOST_CLIMBERS);
            counted.copy(from.counted);
            worth.copy(from.worth);
        }

        private void copyAll(Stair from) {
            copyWalk(from);
            z = from.z;
            System.arraycopy(from.tape, 0, tape, 0, MOST_TAPE);
            taped = from.taped;
            System.arraycopy(from.waiting, 0, waiting, 0, MOST_WAITING);
            waits = from.waits;
        }
    }

    /** A text as it is worked out: what is joined stands ahead of the sign that joins it. */
    private static final class Law {
        private static final int NAME = -1;

        /** Numbers as they are; names -1 to -3; signs less than that, as below 0 as their bytes are above. */
        private final int[] code = new int[MOST_TAPE];
        private int length = 0;
        private final int[] stack = new int[MOST_TAPE];

        private boolean stands() {
            return length > 0;
        }

        private void clear() {
            length = 0;
        }

        private void add(int token) {
            if (length < code.length) {
                code[length] = token;
                length++;
            }
        }

        private void copy(Law from) {
            length = from.length;
            System.arraycopy(from.code, 0, code, 0, length);
        }

        private int work(int a, int b, int c) {
            int top = 0;
            for (int i = 0; i < length; i++) {
                int token = code[i];
                if (token == -'!') {
                    if (top > 0) {
                        stack[top - 1] = stack[top - 1] == 0 ? 1 : 0;
                    }
                } else if (token < NAME - 2) {
                    if (top > 1) {
                        top--;
                        stack[top - 1] = join(-token, stack[top - 1], stack[top]);
                    }
                } else if (top < stack.length) {
                    stack[top] = token >= 0 ? token : token == NAME ? a : token == NAME - 1 ? b : c;
                    top++;
                }
            }
            return stack[0];
        }

        private static int join(int sign, int left, int right) {
            switch (sign) {
                case '|':
                    return left != 0 || right != 0 ? 1 : 0;
                case '&':
                    return left != 0 && right != 0 ? 1 : 0;
                case '<':
                    return left < right ? 1 : 0;
                case '=':
                    return left == right ? 1 : 0;
                case '>':
                    return left > right ? 1 : 0;
                case '+':
                    return left + right;
                case '-':
                    return left - right;
                case '*':
                    return left * right;
                case '/':
                    return right == 0 ? 0 : left / right;
                case '%':
                    return right == 0 ? 0 : left % right;
                default:
                    return 0;
            }
        }
    }

    /** Reads a tape into a law; where it stops short, its place is the fault. */
    private static final class Reader {
        private static final int COMPARES = 2;
        private static final int INNERMOST = 5;

        private final Law law = new Law();
        private final int[] tape = new int[MOST_TAPE];
        private int length = 0;
        private String names = "";
        private int place = 0;

        private boolean reads(int[] from, int n, String known) {
            length = Math.min(n, Math.min(from.length, MOST_TAPE));
            System.arraycopy(from, 0, tape, 0, length);
            names = known;
            place = 0;
            law.clear();
            return readLevel(0, 0) && place == length;
        }

        /** Levels 0 to 4 are T, A, B, S, P: parts of the next level, joined by signs of this one. */
        private boolean readLevel(int level, int open) {
            if (!readPart(level, open)) {
                return false;
            }
            int most = level == COMPARES ? 1 : MOST_TAPE;
            for (int i = 0; i < most && place < length && levelOf(tape[place]) == level; i++) {
                int sign = tape[place];
                place++;
                if (!readPart(level, open)) {
                    return false;
                }
                law.add(-sign);
            }
            return true;
        }

        private boolean readPart(int level, int open) {
            return level + 1 < INNERMOST ? readLevel(level + 1, open) : readQ(open);
        }

        private boolean readQ(int open) {
            if (place >= length) {
                return false;
            }
            int sign = tape[place];
            if (isDigit(sign)) {
                readNumber();
                return true;
            }
            int name = names.indexOf((char) sign);
            if (name >= 0) {
                place++;
                law.add(Law.NAME - name);
                return true;
            }
            if (sign != '!' && sign != '(' || open >= MOST_OPEN) {
                return false;
            }
            place++;
            return sign == '!' ? readNot(open + 1) : readLevel(0, open + 1) && readClose();
        }

        private void readNumber() {
            int v = 0;
            for (int i = 0; i < MOST_DIGITS && place < length && isDigit(tape[place]); i++) {
                v = v * 10 + tape[place] - '0';
                place++;
            }
            law.add(v);
        }

        private boolean readNot(int open) {
            if (!readQ(open)) {
                return false;
            }
            law.add(-'!');
            return true;
        }

        private boolean readClose() {
            if (place >= length || tape[place] != ')') {
                return false;
            }
            place++;
            return true;
        }

        private static boolean isDigit(int sign) {
            return sign >= '0' && sign <= '9';
        }

        private static int levelOf(int sign) {
            switch (sign) {
                case '|':
                    return 0;
                case '&':
                    return 1;
                case '<':
                case '=':
                case '>':
                    return COMPARES;
                case '+':
                case '-':
                    return 3;
                case '*':
                case '/':
                case '%':
                    return 4;
                default:
                    return INNERMOST;
            }
        }
    }

    /** What the kinds say, and which bodies began when they last did. */
    private static final class Voices {
        private static final int DEEPEST = 40;

        /** By kind and voice; 0 where a kind has no body of its own. */
        private static final int[] BODIES = {
            10, 11, 12, 13,
            20, 0, 0, 21,
            0, 30, 0, 0,
            0, 0, 40, 0,
            50, 0, 51, 0,
            0, 60, 0, 0,
            70, 71, 0, 0,
        };

        private final int[] trace = new int[MOST_TRACE];
        private int traced = 0;
        private boolean parted = false;
        private int kind = PORTER;
        private int k = 0;
        private int m = 0;

        private int speak(int ofKind, int number, int told, int which, int x) {
            kind = ofKind;
            k = number;
            m = told;
            traced = 0;
            parted = false;
            return say(kind, which, x, 0);
        }

        private int say(int from, int which, int x, int deep) {
            // Nothing begins any more once it is parted.
            if (parted || deep > DEEPEST) {
                return 0;
            }
            int number = find(from, which);
            begin(number);
            return sayBody(number, x, deep + 1);
        }

        private int sayBody(int number, int x, int deep) {
            switch (number) {
                case 10:
                    return x + k;
                case 11:
                    return say(kind, PANTS, x, deep) * 2;
                case 12:
                    return say(kind, COUNTS, x, deep) - m;
                case 13:
                    return part(x);
                case 20:
                    return say(PORTER, PANTS, x, deep) - 4;
                case 21:
                    return say(PORTER, PARTS, x, deep) + say(kind, COUNTS, 1, deep);
                case 30:
                    return 0 - say(PORTER, COUNTS, x, deep);
                case 40:
                    return say(PORTER, SWEARS, x / 2, deep);
                case 50:
                    return say(RUNNER, PANTS, x, deep) * 3;
                case 51:
                    return say(RUNNER, SWEARS, x, deep) ^ k;
                case 60:
                    return say(DESCENDER, COUNTS, x + 1, deep);
                case 70:
                    return 9;
                case 71:
                    return say(PORTER, COUNTS, x, deep) + m;
                default:
                    return 0;
            }
        }

        private int part(int x) {
            int by = m - k;
            if (by == 0) {
                parted = true;
                return 0;
            }
            return x / by;
        }

        private void begin(int number) {
            if (traced < MOST_TRACE) {
                trace[traced] = number;
                traced++;
            }
        }

        private static int find(int from, int which) {
            int of = from;
            for (int i = 0; i < KINDS && !isOutside(of, 0, KINDS - 1); i++) {
                int number = BODIES[of * VOICES + which];
                if (number != 0) {
                    return number;
                }
                of = KIND_ABOVE[of];
            }
            return 0;
        }
    }

    /** Rows of numbers; one of no bits is missing. */
    private static final class Sheets {
        private final int[][] numbers = new int[SHEETS][MOST_NUMBERS];
        private final int[] bits = new int[SHEETS];
        private final int[] sizes = new int[SHEETS];

        private void lay(int sheet, int b, int n) {
            bits[sheet] = b;
            sizes[sheet] = n;
            Arrays.fill(numbers[sheet], 0);
        }

        private boolean isMissing(int sheet) {
            return bits[sheet] == 0;
        }

        private boolean holds(int sheet, int i, int n) {
            return n >= 0 && i >= 0 && n <= sizes[sheet] && i <= sizes[sheet] - n;
        }
    }
}
