/** Objects in the midst of their use: in each part stands something that a wrong call could spoil. */
final class Rich {
    private Rich() {
    }

    /** Six steps, no climbers; MINUTE 8; three sheets, of 8, 16 and 32 bits; the last one is missing. */
    static UpAllRound bare() {
        UpAllRound x = new UpAllRound();
        x.build(6);
        x.rise(1, 3);
        x.rise(4, -4);
        x.hide(2);
        Make.text(x, 0, "r+s-1");
        Make.text(x, 1, "h*2+c");
        Make.sheet(x, 0, 8, 5, -9, 1);
        Make.sheet(x, 1, 16, 2, -3);
        Make.sheet(x, 2, 32, 7, 8, -9, 4);
        x.minutes(7);
        x.tell(5);
        x.tell(-6);
        x.seed(77);
        Make.feed(x, "s");
        x.image();
        x.rise(9, 0);
        x.body(0);
        x.hide(3);
        x.rise(0, 2);
        Make.feed(x, "+1");
        x.tell(8);
        x.seed(99);
        x.minutes(1);
        return x;
    }

    /**
     * The same with climbers 0 to 3, three bodies in the trace, and a second image that has climbers. Of the three
     * numbers that wait, the third is the first that isn't so, now and in the image.
     */
    static UpAllRound busy() {
        UpAllRound x = bare();
        x.climber(0, 0);
        x.climber(12, 5);
        x.climber(37, 3);
        x.height(0, 5);
        x.height(1, -6);
        x.voice(0, 2, 7);
        x.as(0, 1);
        x.image();
        x.climber(58, 5);
        x.height(2, 8);
        x.rise(5, 9);
        x.minutes(1);
        x.height(0, 5);
        x.height(1, -6);
        return x;
    }

    /** As many climbers as there may be. */
    static UpAllRound full() {
        UpAllRound x = busy();
        x.climber(20, 1);
        x.climber(44, 2);
        return x;
    }

    /** Busy, at the last MINUTE but so many. */
    static UpAllRound late(int left) {
        UpAllRound x = busy();
        return Make.after(9999 - left - x.count(2), x);
    }

    /** Busy, with so many bytes on the tape. */
    static UpAllRound taped(int bytes) {
        UpAllRound x = busy();
        Make.feed(x, "+1".repeat(30).substring(0, bytes - x.count(5)));
        return x;
    }

    /** Busy, with so many numbers waiting. */
    static UpAllRound waiting(int numbers) {
        UpAllRound x = busy();
        for (int i = x.count(6); i < numbers; i++) {
            x.tell(i);
        }
        return x;
    }
}
