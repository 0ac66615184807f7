import java.util.LinkedHashMap;
import java.util.Map;

/** All that can be learnt of an object, which is spoilt by it. It asks some 200 times. */
final class Probe {
    private static final int SHEETS = 4;

    private final UpAllRound x;
    private final Map<String, Long> answers = new LinkedHashMap<>();
    private String when = "";

    private Probe(UpAllRound x) {
        this.x = x;
    }

    static Map<String, Long> of(UpAllRound x) {
        Probe p = new Probe(x);
        p.counted();
        p.stands();
        p.trace();
        p.spent();
        for (int sheet = 0; sheet < SHEETS; sheet++) {
            p.sheet(sheet);
        }
        p.put("restore()", x.restore());
        p.when = "in the image: ";
        p.stands();
        p.spent();
        p.when = "";
        p.put("image()", x.image());
        return p.answers;
    }

    private void put(String call, long answer) {
        answers.put(when + call, answer);
    }

    private void counted() {
        for (int k = 1; k <= 6; k++) {
            put("told(" + k + ")", x.told(k));
        }
    }

    /** Changes nothing. */
    private void stands() {
        for (int what : new int[] {0, 1, 2, 3, 4, 5, 6, 8}) {
            put("count(" + what + ")", x.count(what));
        }
        for (int step = 0; step < x.count(1); step++) {
            for (int what = 0; what <= 2; what++) {
                put("stepIs(" + step + ", " + what + ")", x.stepIs(step, what));
            }
        }
        for (int climber = 0; climber < x.count(0); climber++) {
            for (int what = 0; what <= 4; what++) {
                put("climberIs(" + climber + ", " + what + ")", x.climberIs(climber, what));
            }
        }
        put("law(0, 7, 3, 2)", x.law(0, 7, 3, 2));
        put("law(0, -7, 20, 5)", x.law(0, -7, 20, 5));
        put("law(1, 7, 3, 2)", x.law(1, 7, 3, 2));
        put("law(1, 2, 55, 1)", x.law(1, 2, 55, 1));
    }

    private void trace() {
        put("count(7)", x.count(7));
        for (int i = 0; i < x.count(7); i++) {
            put("body(" + i + ")", x.body(i));
        }
    }

    /** Uses up what waits and what is on the tape. */
    private void spent() {
        put("check()", x.check());
        put("text(0)", x.text(0));
        put("law(0, 3, 5, 9) by the tape", x.law(0, 3, 5, 9));
        put("law(0, -1, 2, 4) by the tape", x.law(0, -1, 2, 4));
    }

    private void sheet(int sheet) {
        String of = " of sheet " + sheet;
        int right = x.rises(sheet);
        put("rises" + of, right);
        for (int i = 0; i < right; i++) {
            put("number " + i + of, x.stepIs(i, 0));
        }
        int size = 0;
        while (right >= 0 && x.put(sheet, size, 0) == 1) {
            size++;
        }
        put("size" + of, size);
        if (size > 0) {
            x.put(sheet, 0, 0x10105);
            put("8 bits" + of, x.rises(sheet) > 0 ? 1 : 0);
            x.put(sheet, 0, 0x10005);
            put("8 or 16 bits" + of, x.rises(sheet) > 0 ? 1 : 0);
        }
    }
}
