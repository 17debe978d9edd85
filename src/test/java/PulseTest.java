/** Promises 1, 5, 9, 11 and 26: a new object, the receiver's numbers, pulses, bits and forgetting. */
public final class PulseTest {
    public static void main(String[] args) {
        newObject();
        wrongPulses();
        lengths();
        noMarkYet();
        steps();
        tolerance();
        secondsMissed();
        outOfStep();
        minuteEnds();
        minuteBeginsLate();
        leapMinute();
        doubtsSoFar();
        forgetting();
        Check.end("PulseTest");
    }

    private static void newObject() {
        RadioClock x = new RadioClock();
        int[] due = {-1, 0, -1, 0, 0, 0, 100, 3, 5, 0, 0, -1, 0, 0};
        for (int what = 0; what < 14; what++) {
            Check.that("count(" + what + ") at first", x.count(what), due[what]);
        }
        for (int what : new int[] {-1, 14, 15, Integer.MIN_VALUE, Integer.MAX_VALUE}) {
            Check.fails("count(" + what + ")", Check.ARGUMENT, () -> x.count(what));
        }
        Check.that("no error at first", x.errorPosition(), -1);
        Check.fails("the buffer is empty", Check.ARGUMENT, () -> x.load(1));
        Check.fails("slot 0 is empty", Check.STATE, () -> x.restore(0));
        Check.fails("slot 1 is empty", Check.STATE, () -> x.restore(1));
        Check.fails("nothing to undo", Check.STATE, x::undo);
        Check.fails("no frame", Check.INDEX, () -> x.frame(0, 0));
        Check.fails("no fix", Check.INDEX, () -> x.fix(0, 0));
        Check.fails("no bit", Check.INDEX, () -> x.bit(0));
    }

    private static void wrongPulses() {
        RadioClock x = new RadioClock();
        int[][] wrong = {{-1, 100}, {2000000001, 100}, {Integer.MIN_VALUE, 100}, {Integer.MAX_VALUE, 100},
            {5, -1}, {5, 10000}, {5, Integer.MIN_VALUE}, {5, Integer.MAX_VALUE}};
        for (int[] w : wrong) {
            Check.fails("pulse(" + w[0] + ", " + w[1] + ")", Check.ARGUMENT, () -> x.pulse(w[0], w[1]));
        }
        Check.that("nothing changed", Check.state(x), Check.state(new RadioClock()));
        Check.fails("wrong pulses are no changes", Check.STATE, x::undo);
        Check.that("pulse at 0", x.pulse(0, 9999), 1);
        Check.fails("the same time again", Check.ARGUMENT, () -> x.pulse(0, 100));
        Check.that("an ignored pulse", x.pulse(500, 0), 0);
        Check.fails("the time of an ignored pulse", Check.ARGUMENT, () -> x.pulse(500, 100));
        Check.fails("a time ahead of an ignored pulse", Check.ARGUMENT, () -> x.pulse(499, 100));
        Check.that("the latest time", x.pulse(2000000000, 100), 4);
        Check.fails("no pulse can be later", Check.ARGUMENT, () -> x.pulse(2000000000, 100));
    }

    private static void lengths() {
        int[] lengths = {30, 59, 60, 61, 100, 139, 140, 141, 150, 159, 160, 161, 200, 239, 240, 241, 9999};
        int[] bits = {2, 2, 0, 0, 0, 0, 0, 2, 2, 2, 1, 1, 1, 1, 1, 2, 2};
        for (int i = 0; i < lengths.length; i++) {
            RadioClock x = new RadioClock();
            x.pulse(0, 100);
            Check.that("a minute begins", x.pulse(2000, lengths[i]), 3);
            Check.that("bit 0 of the length " + lengths[i], x.bit(0), bits[i]);
            Check.that("pulse of the length " + lengths[i], x.pulse(3000, lengths[i]), 1);
            Check.that("bit 1 of the length " + lengths[i], x.bit(1), bits[i]);
        }
        for (int length : new int[] {0, 1, 29}) {
            RadioClock x = Check.atSecondZero();
            Check.that("pulse of the length " + length, x.pulse(3000, length), 0);
            Check.that("ignored", x.count(13), 1);
            Check.that("the last mark stays", x.count(11), 2000);
            Check.that("the position stays", x.count(0), 0);
        }
    }

    private static void noMarkYet() {
        RadioClock x = new RadioClock();
        Check.that("a short pulse is no mark", x.pulse(0, 29), 0);
        Check.that("no last mark", x.count(11), -1);
        Check.that("ignored", x.count(13), 1);
        Check.that("the first mark", x.pulse(123456, 30), 1);
        Check.that("last mark", x.count(11), 123456);
        Check.that("no position", x.count(0), -1);
        Check.fails("no bit without a position", Check.INDEX, () -> x.bit(0));
    }

    private static void steps() {
        for (int k = 1; k <= 12; k++) {
            RadioClock x = new RadioClock();
            x.pulse(0, 100);
            int due = k == 2 ? 3 : k > 10 ? 4 : 1;
            Check.that("a step of " + k + " seconds without a position", x.pulse(1000 * k, 100), due);
            Check.that("position behind " + k, x.count(0), k == 2 ? 0 : -1);
            Check.that("last mark behind " + k, x.count(11), 1000 * k);
            Check.that("length of the minute behind " + k, x.count(4), k == 2 ? 60 : 0);
        }
        // The nearest second counts, and a half is rounded up: 10500 is 11 seconds.
        Check.that("10499 is 10 seconds", second(10499), 0);
        Check.that("10500 is 11 seconds", second(10500), 4);
        Check.that("2000000000 is out of step", second(2000000000), 4);
        Check.that("499 is no second", second(499), 0);
        Check.that("1 is no second", second(1), 0);
        Check.that("500 is one second, but far off", second(500), 0);
    }

    private static int second(int time) {
        RadioClock x = new RadioClock();
        x.pulse(0, 100);
        return x.pulse(time, 100);
    }

    private static void tolerance() {
        for (int tolerance : new int[] {10, 11, 100, 200}) {
            for (int k = 1; k <= 10; k++) {
                for (int sign = -1; sign <= 1; sign += 2) {
                    for (int off = tolerance; off <= tolerance + 1; off++) {
                        RadioClock x = new RadioClock();
                        x.set(0, tolerance);
                        x.pulse(7, 100);
                        int due = off > tolerance ? 0 : k == 2 ? 3 : 1;
                        Check.that("tolerance " + tolerance + ", " + k + " seconds, off by " + sign * off,
                            x.pulse(7 + 1000 * k + sign * off, 100), due);
                        Check.that("ignored pulses", x.count(13), due == 0 ? 1 : 0);
                        Check.that("last mark", x.count(11), due == 0 ? 7 : 7 + 1000 * k + sign * off);
                    }
                }
            }
        }
        RadioClock x = Check.atSecondZero();
        Check.that("off by 101", x.pulse(2899, 100), 0);
        Check.that("measured from the last mark, not the last pulse", x.pulse(3050, 100), 1);
        Check.that("measured from the mark as it came", x.pulse(4150, 100), 1);
        Check.that("off by 101 from there", x.pulse(5251, 100), 0);
    }

    private static void secondsMissed() {
        RadioClock x = Check.atSecondZero();
        Check.that("1 second", x.pulse(3000, 200), 1);
        Check.that("4 seconds", x.pulse(7000, 200), 2);
        Check.that("position", x.count(0), 5);
        int[] due = {0, 1, 2, 2, 2, 1};
        for (int second = 0; second <= 5; second++) {
            Check.that("bit " + second, x.bit(second), due[second]);
        }
        for (int second : new int[] {-1, 6, 58, 59, 60, Integer.MIN_VALUE, Integer.MAX_VALUE}) {
            Check.fails("bit " + second, Check.INDEX, () -> x.bit(second));
        }
        Check.that("doubtful ones", x.count(12), 3);
        Check.that("10 seconds", x.pulse(17000, 100), 2);
        Check.that("doubtful ones", x.count(12), 12);
        Check.that("2 seconds", x.pulse(19000, 100), 2);
        Check.that("doubtful ones", x.count(12), 13);
        Check.that("position", x.count(0), 17);
    }

    private static RadioClock atPosition(int position) {
        RadioClock x = Check.atSecondZero();
        for (int second = 1; second <= position; second++) {
            x.pulse(2000 + 1000 * second, 100);
        }
        return x;
    }

    private static void outOfStep() {
        for (int from = 49; from <= 58; from++) {
            RadioClock x = atPosition(from);
            Check.that("a mark in second 59 from " + from, x.pulse(2000 + 59000, 100), 4);
            Check.that("no position", x.count(0), -1);
            Check.that("the mark counts", x.count(11), 61000);
            Check.that("then 2 seconds begin a minute", x.pulse(63000, 200), 3);
            Check.that("its bit", x.bit(0), 1);
        }
        RadioClock x = atPosition(58);
        x.pulse(62000, 100);
        Check.that("one frame", x.count(1), 1);
        Check.that("11 seconds", x.pulse(73000, 100), 4);
        Check.that("frames are forgotten", x.count(1), 0);
        Check.that("the length of the minute", x.count(4), 0);
        Check.that("the doubtful bits", x.count(12), 0);
        RadioClock y = toldReceiver();
        Check.that("a told minute", y.count(2), 3);
        Check.that("its voters", y.count(3), 3);
        Check.that("out of step", y.pulse(y.count(11) + 59000, 100), 4);
        Check.that("no told minute", y.count(2), -1);
        Check.that("no voters", y.count(3), 0);
        Check.that("the fix stays", y.count(5), 1);
        RadioClock z = toldReceiver();
        int mark = z.count(11);
        z.pulse(mark + 8000, 100);
        Check.that("a mark in second 59", stepTo59(z, mark), 4);
        Check.that("frames are forgotten", z.count(1), 0);
        Check.that("no told minute", z.count(2), -1);
        Check.that("no voters", z.count(3), 0);
    }

    private static int stepTo59(RadioClock x, int base) {
        for (int second = 15; second < 59; second += 4) {
            x.pulse(base + 1000 * second, 100);
        }
        return x.pulse(base + 59000, 100);
    }

    /** A receiver at the position 0 with the told minute 3 by the frames of the minutes 1 to 3. */
    private static RadioClock toldReceiver() {
        RadioClock x = Check.atSecondZero();
        for (int minute = 1; minute <= 3; minute++) {
            Check.minute(x, Check.bits(x, minute, false), 0);
        }
        return x;
    }

    private static void minuteEnds() {
        for (int from = 50; from <= 58; from++) {
            for (int to = 60; to <= from + 10; to++) {
                RadioClock x = atPosition(from);
                Check.that("from " + from + " to " + to, x.pulse(2000 + 1000 * to, 200), 3);
                Check.that("position", x.count(0), to - 60);
                Check.that("frames", x.count(1), 1);
                Check.that("length", x.count(4), 60);
                Check.that("doubtful bits of the new minute", x.count(12), to - 60);
                Check.that("its bit", x.bit(to - 60), 1);
                if (to > 60) {
                    Check.that("a bit ahead of it", x.bit(to - 61), 2);
                    Check.that("the bit 0", x.bit(0), 2);
                }
                for (int second = 0; second <= 58; second++) {
                    Check.that("bit " + second + " of the frame", x.frameBit(0, second), second > from ? 2 : 0);
                }
                Check.that("doubtful bits of the frame", x.frame(0, 0), 58 - from);
            }
        }
    }

    private static void minuteBeginsLate() {
        RadioClock x = atPosition(58);
        x.pulse(67000, 200);
        Check.that("position", x.count(0), 5);
        Check.that("goes on", x.pulse(68000, 200), 1);
        Check.that("bits", "" + x.bit(0) + x.bit(4) + x.bit(5) + x.bit(6), "2211");
        Check.minute(x, "2222211" + "0".repeat(52), 0);
        Check.that("the frame has what was received", "" + x.frameBit(0, 4) + x.frameBit(0, 5) + x.frameBit(0, 7), "210");
        Check.that("bits that matter", x.frame(0, 0), 1);
        Check.that("the older frame", x.frame(1, 0), 0);
    }

    private static void leapMinute() {
        RadioClock x = leapReceiver();
        Check.that("length", x.count(4), 61);
        int base = x.count(11);
        for (int second = 1; second <= 58; second++) {
            x.pulse(base + 1000 * second, 100);
        }
        Check.that("a mark in second 59 may be", x.pulse(base + 59000, 300), 1);
        Check.that("position", x.count(0), 59);
        Check.fails("its bit is not kept", Check.INDEX, () -> x.bit(59));
        Check.that("nor counted", x.count(12), 0);
        Check.that("the bit 58", x.bit(58), 0);
        x.save(0);
        Check.that("a mark in second 60 may not be", x.pulse(base + 60000, 100), 4);
        x.restore(0);
        Check.that("the next minute begins in second 61", x.pulse(base + 61000, 200), 3);
        Check.that("position", x.count(0), 0);
        Check.that("no doubtful bit", x.frame(0, 0), 0);
        RadioClock y = leapReceiver();
        stepBy(y, base, 58);
        Check.that("a mark in second 60 may not be", y.pulse(base + 60000, 100), 4);
        RadioClock z = leapReceiver();
        stepBy(z, base, 56);
        Check.that("from 56 on", z.pulse(base + 59000, 100), 2);
        Check.that("the bits 57 and 58 are doubtful", "" + z.bit(57) + z.bit(58) + z.count(12), "222");
        Check.that("then 4 seconds", z.pulse(base + 63000, 100), 3);
        Check.that("position", z.count(0), 2);
        Check.that("the frame's bits", "" + z.frameBit(0, 57) + z.frameBit(0, 58) + z.frame(0, 0), "222");
    }

    private static void stepBy(RadioClock x, int base, int last) {
        for (int second = 1; second <= last; second++) {
            x.pulse(base + 1000 * second, 100);
        }
    }

    /** At the second 0 of the last minute of an hour, behind two frames that announce a leap second. */
    private static RadioClock leapReceiver() {
        RadioClock x = Check.atSecondZero();
        x.set(1, 2);
        Check.minute(x, Check.bits(x, 57, true), 0);
        Check.minute(x, Check.bits(x, 58, true), 0);
        return x;
    }

    private static void doubtsSoFar() {
        RadioClock x = new RadioClock();
        x.pulse(0, 100);
        x.pulse(2000, 300);
        Check.that("the bit 0 is doubtful", x.count(12), 1);
        x.pulse(3000, 300);
        x.pulse(4000, 100);
        x.pulse(4500, 29);
        Check.that("two bits are doubtful", x.count(12), 2);
        Check.that("one pulse was ignored", x.count(13), 1);
        for (int second = 3; second <= 58; second++) {
            x.pulse(2000 + 1000 * second, 300);
            Check.that("doubtful bits at " + second, x.count(12), second);
        }
    }

    private static void forgetting() {
        RadioClock x = toldReceiver();
        x.pulse(x.count(11) + 1000, 100);
        int mark = x.count(11);
        Check.that("forget", x.forget(), 3);
        int[] due = {-1, 0, -1, 0, 0, 1, 100, 3, 5, 0, 0, mark, 0, 0};
        for (int what = 0; what < 14; what++) {
            Check.that("count(" + what + ") then", x.count(what), due[what]);
        }
        Check.fails("no frame", Check.INDEX, () -> x.frame(0, 0));
        Check.fails("no bit", Check.INDEX, () -> x.bit(0));
        Check.that("the fix stays", x.fix(0, 0), 4);
        Check.that("2 seconds begin a minute", x.pulse(mark + 2000, 100), 3);
        Check.that("forget without frames", x.forget(), 0);
        Check.that("forget a new receiver", new RadioClock().forget(), 0);
        RadioClock y = new RadioClock();
        y.forget();
        Check.that("that is a change", y.undo(), 0);
    }
}
