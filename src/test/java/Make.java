/** Objects for the tests, and what is put into them in several calls. */
final class Make {
    private Make() {
    }

    /** Signs to the tape, eight at a time; how many bytes there are then. */
    static int feed(UpAllRound x, String signs) {
        int answer = 0;
        for (int at = 0; at < signs.length(); at += 8) {
            int n = Math.min(8, signs.length() - at);
            answer = x.feed(word(signs.substring(at, at + n)), n);
        }
        return answer;
    }

    static long word(String signs) {
        long word = 0;
        for (int i = signs.length() - 1; i >= 0; i--) {
            word = word << 8 | signs.charAt(i);
        }
        return word;
    }

    static int text(UpAllRound x, int use, String signs) {
        feed(x, signs);
        return x.text(use);
    }

    /** What text() answers for it on a new object. */
    static int said(int use, String signs) {
        return text(new UpAllRound(), use, signs);
    }

    /** What a counted text gives for r, s, t. */
    static int gives(String signs, int r, int s, int t) {
        UpAllRound x = new UpAllRound();
        if (text(x, 0, signs) != 1) {
            throw new AssertionError("no text: " + signs);
        }
        return x.law(0, r, s, t);
    }

    /** Eight steps, and climbers: km, step, km, step, .. */
    static UpAllRound with(int... kmsAndSteps) {
        return on(8, kmsAndSteps);
    }

    static UpAllRound on(int steps, int... kmsAndSteps) {
        UpAllRound x = new UpAllRound();
        x.build(steps);
        for (int i = 0; i + 1 < kmsAndSteps.length; i += 2) {
            x.climber(kmsAndSteps[i], kmsAndSteps[i + 1]);
        }
        return x;
    }

    static UpAllRound sheet(UpAllRound x, int sheet, int bits, int... numbers) {
        x.sheet(sheet, bits, numbers.length);
        for (int i = 0; i < numbers.length; i++) {
            x.put(sheet, i, numbers[i]);
        }
        return x;
    }

    /** So many minutes on, also more than one call takes. */
    static UpAllRound after(int minutes, UpAllRound x) {
        for (int left = minutes; left > 0; left -= 200) {
            x.minutes(Math.min(200, left));
        }
        return x;
    }
}
