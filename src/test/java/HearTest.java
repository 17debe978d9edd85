/** Promise 10: hearing. */
public final class HearTest {
    private static final int NOON = 14135805;

    public static void main(String[] args) {
        bitsAndTimes();
        lostOnes();
        beginnings();
        pulsesThatDoNotCome();
        wrongArguments();
        tooLate();
        leapMinute();
        Check.end("HearTest");
    }

    private static void bitsAndTimes() {
        RadioClock x = new RadioClock();
        Check.that("the first minute", x.hear(NOON, false, 0), 59);
        Check.that("last mark", x.count(11), 58000);
        Check.that("no position", x.count(0), -1);
        Check.that("the second minute", x.hear(NOON + 1, true, 0), 59);
        Check.that("last mark", x.count(11), 118000);
        Check.that("position", x.count(0), 58);
        for (int second = 0; second < 59; second++) {
            Check.that("bit " + second, x.bit(second), (int) (x.code(NOON + 1, true) >>> second & 1));
        }
        Check.that("the third minute", x.hear(NOON + 2, false, 0), 59);
        Check.that("told by the frame", x.frame(0, 2), NOON + 1);
        Check.that("its bit 19", x.frame(0, 3), 1);
        Check.that("last mark", x.count(11), 178000);
    }

    private static void lostOnes() {
        RadioClock x = new RadioClock();
        Check.that("all is lost", x.hear(NOON, false, -1L), 0);
        Check.that("no mark", x.count(11), -1);
        Check.that("that is a change", x.undo(), 0);
        Check.that("bits above 58 do not matter", x.hear(NOON, false, -1L << 59), 59);
        Check.that("two are lost", x.hear(NOON + 1, false, 1L << 5 | 1L << 58), 57);
        Check.that("position", x.count(0), 57);
        Check.that("the lost one", x.bit(5), 2);
        Check.that("doubtful ones", x.count(12), 1);
        // The second 58 was lost, so the next minute is begun from the second 57: 3 seconds.
        Check.that("the next minute", x.hear(NOON + 2, false, 0), 59);
        Check.that("the frame", "" + x.frameBit(0, 5) + x.frameBit(0, 58) + x.frameBit(0, 57), "220");
        Check.that("last mark", x.count(11), 178000);
        RadioClock y = new RadioClock();
        Check.that("the first one is lost", y.hear(NOON, false, 1L), 58);
        Check.that("last mark", y.count(11), 58000);
        Check.that("seconds 0 to 9 are lost", y.hear(NOON, false, 1023L), 49);
        Check.that("so no minute began, and 12 seconds are out of step", y.count(0), -1);
    }

    private static void beginnings() {
        RadioClock x = new RadioClock();
        x.pulse(5000, 100);
        Check.that("behind a mark without a position", x.hear(NOON, false, 0), 59);
        Check.that("it begins 2000 later", x.count(11), 65000);
        Check.that("position", x.count(0), 58);
        RadioClock y = new RadioClock();
        y.pulse(5000, 100);
        y.pulse(7000, 100);
        y.pulse(10020, 100);
        Check.that("behind the position 3", y.hear(NOON, false, ~0L ^ 1L), 1);
        Check.that("57 seconds are out of step", y.count(0), -1);
        Check.that("it begins by the mark as it was", y.count(11), 10020 + 57000);
        RadioClock z = new RadioClock();
        z.pulse(5000, 100);
        z.pulse(7000, 100);
        for (int second = 1; second <= 55; second++) {
            z.pulse(7020 + 1000 * second, 100);
        }
        Check.that("behind the position 55", z.hear(NOON, false, 0), 59);
        Check.that("in step", z.count(1), 1);
        Check.that("by the mark as it was", z.count(11), 7020 + 60000 + 58000);
    }

    private static void pulsesThatDoNotCome() {
        RadioClock x = new RadioClock();
        x.pulse(3000, 29);
        Check.that("the seconds 0 to 3 do not come", x.hear(NOON, false, 0), 55);
        Check.that("they are not ignored either", x.count(13), 1);
        Check.that("last mark", x.count(11), 58000);
        RadioClock y = new RadioClock();
        y.pulse(2999, 29);
        Check.that("the second 3 comes", y.hear(NOON, false, 0), 56);
        RadioClock z = new RadioClock();
        z.pulse(900000, 29);
        Check.that("none comes", z.hear(NOON, false, 0), 0);
        Check.that("no mark", z.count(11), -1);
        Check.that("still a change", z.undo(), 1);
    }

    private static void wrongArguments() {
        RadioClock x = new RadioClock();
        for (int minute : new int[] {-1, 52596000, Integer.MIN_VALUE, Integer.MAX_VALUE}) {
            Check.fails("hear(" + minute + ")", Check.ARGUMENT, () -> x.hear(minute, false, 0));
        }
        Check.that("nothing changed", Check.state(x), Check.state(new RadioClock()));
        Check.fails("no change", Check.STATE, x::undo);
        Check.that("minute 0", x.hear(0, false, 0), 59);
        Check.that("the last minute", x.hear(52595999, false, 0), 59);
    }

    private static void tooLate() {
        RadioClock x = new RadioClock();
        x.pulse(1999940000, 100);
        x.save(0);
        Check.that("the last minute that can be heard", x.hear(NOON, false, 0), 59);
        Check.that("its last mark", x.count(11), 2000000000);
        Check.fails("no minute any more", Check.STATE, () -> x.hear(NOON, false, 0));
        Check.fails("whatever is lost", Check.STATE, () -> x.hear(NOON, false, -1L));
        Check.fails("the argument is looked at first", Check.ARGUMENT, () -> x.hear(-1, false, 0));
        RadioClock y = new RadioClock();
        y.pulse(1999940001, 100);
        String before = Check.state(y);
        Check.fails("one millisecond too late", Check.STATE, () -> y.hear(NOON, false, -1L));
        Check.that("nothing changed", Check.state(y), before);
        Check.that("no change", y.undo(), 0);
        RadioClock z = new RadioClock();
        z.pulse(1999880000, 100);
        z.pulse(1999882000, 100);
        Check.that("by the length of the minute", z.hear(NOON, false, 0), 59);
        RadioClock w = new RadioClock();
        w.pulse(1999880001, 100);
        w.pulse(1999882001, 100);
        Check.fails("by the length of the minute", Check.STATE, () -> w.hear(NOON, false, 0));
    }

    private static void leapMinute() {
        RadioClock x = new RadioClock();
        x.set(1, 2);
        int last = 14135819;
        for (int minute = last - 3; minute <= last; minute++) {
            x.hear(minute, true, 0);
        }
        Check.that("a minute of 61 seconds", x.count(4), 61);
        Check.that("last mark", x.count(11), 238000);
        Check.that("the next one", x.hear(last + 1, false, 0), 59);
        Check.that("begins 3 seconds behind the second 58", x.count(11), 299000);
        Check.that("in step", x.count(2), last);
        Check.that("usual length", x.count(4), 60);
    }
}
