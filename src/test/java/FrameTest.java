/** Promises 12 to 15 and 19: frames, their faults, mending, votes, the favourite and the weakest bit. */
public final class FrameTest {
    private static final int NOON = 14135805;

    public static void main(String[] args) {
        wrongArguments();
        faults();
        faultsInTheirOrder();
        bitsThatNeverMatter();
        mending();
        bitNineteen();
        severalWays();
        votesAndFavourite();
        mendOfNow();
        window();
        weakest();
        Check.end("FrameTest");
    }

    /** A receiver whose only frame has these bits. */
    static RadioClock frameOf(String bits) {
        RadioClock x = new RadioClock();
        x.pulse(0, 100);
        x.pulse(2000, Check.lengthOf(bits.charAt(0) - '0'));
        Check.minute(x, bits, 0);
        return x;
    }

    private static String noon() {
        return Check.bits(new RadioClock(), NOON, false);
    }

    private static void wrongArguments() {
        RadioClock x = frameOf(noon());
        for (int frame : new int[] {-1, 1, 2, 8, Integer.MIN_VALUE, Integer.MAX_VALUE}) {
            Check.fails("frame(" + frame + ", 0)", Check.INDEX, () -> x.frame(frame, 0));
            Check.fails("frame(" + frame + ", 4)", Check.INDEX, () -> x.frame(frame, 4));
            Check.fails("frameBit(" + frame + ", 0)", Check.INDEX, () -> x.frameBit(frame, 0));
        }
        for (int what : new int[] {-1, 4, Integer.MIN_VALUE, Integer.MAX_VALUE}) {
            Check.fails("frame(0, " + what + ")", Check.ARGUMENT, () -> x.frame(0, what));
        }
        for (int second : new int[] {-1, 59, 60, Integer.MIN_VALUE, Integer.MAX_VALUE}) {
            Check.fails("frameBit(0, " + second + ")", Check.INDEX, () -> x.frameBit(0, second));
        }
        String bits = noon();
        for (int second = 0; second < 59; second++) {
            Check.that("frameBit(0, " + second + ")", x.frameBit(0, second), bits.charAt(second) - '0');
        }
    }

    private static int fault(String bits) {
        RadioClock x = frameOf(bits);
        int fault = x.frame(0, 1);
        int told = x.frame(0, 2);
        Check.that("told by " + bits, told != -1, fault == 0);
        return fault;
    }

    /** The bits of a time and a date, told by their digits, with right parities. */
    static String coded(int minute10, int minute1, int hour10, int hour1, int day10, int day1, int weekday,
            int month10, int month1, int year10, int year1) {
        StringBuilder text = new StringBuilder("0".repeat(20) + "1");
        text.append(low(minute1, 4)).append(low(minute10, 3));
        text.append(parity(text.substring(21)));
        text.append(low(hour1, 4)).append(low(hour10, 2));
        text.append(parity(text.substring(29)));
        text.append(low(day1, 4)).append(low(day10, 2)).append(low(weekday, 3));
        text.append(low(month1, 4)).append(low(month10, 1)).append(low(year1, 4)).append(low(year10, 4));
        text.append(parity(text.substring(36)));
        return text.toString();
    }

    private static String low(int value, int width) {
        StringBuilder text = new StringBuilder();
        for (int i = 0; i < width; i++) {
            text.append(value >> i & 1);
        }
        return text.toString();
    }

    private static String parity(String bits) {
        return bits.replace("0", "").length() % 2 == 0 ? "0" : "1";
    }

    private static void faults() {
        String noon = noon();
        Check.that("coded by digits", coded(4, 5, 1, 2, 1, 6, 1, 1, 1, 2, 6), noon);
        Check.that("no fault", fault(noon), 0);
        Check.that("told", frameOf(noon).frame(0, 2), NOON);
        for (int second = 0; second < 59; second++) {
            boolean matters = second == 0 || second >= 19;
            Check.that("doubtful second " + second, fault(Check.with(noon, second, 2)), matters ? 1 : 0);
            Check.that("doubtful bits", frameOf(Check.with(noon, second, 2)).frame(0, 0), matters ? 1 : 0);
            int flipped = '1' - noon.charAt(second);
            int due = second == 0 || second == 20 ? 2 : second < 21 ? 0 : second < 29 ? 3 : second < 36 ? 4 : 5;
            Check.that("flipped second " + second, fault(Check.with(noon, second, flipped)), due);
        }
        Check.that("minute 59", fault(coded(5, 9, 1, 2, 1, 6, 1, 1, 1, 2, 6)), 0);
        Check.that("minute 60", fault(coded(6, 0, 1, 2, 1, 6, 1, 1, 1, 2, 6)), 6);
        Check.that("minute 79", fault(coded(7, 9, 1, 2, 1, 6, 1, 1, 1, 2, 6)), 6);
        Check.that("a digit 10 of the minute", fault(coded(4, 10, 1, 2, 1, 6, 1, 1, 1, 2, 6)), 6);
        Check.that("hour 23", fault(coded(4, 5, 2, 3, 1, 6, 1, 1, 1, 2, 6)), 0);
        Check.that("hour 24", fault(coded(4, 5, 2, 4, 1, 6, 1, 1, 1, 2, 6)), 6);
        Check.that("hour 39", fault(coded(4, 5, 3, 9, 1, 6, 1, 1, 1, 2, 6)), 6);
        Check.that("a digit 10 of the hour", fault(coded(4, 5, 1, 10, 1, 6, 1, 1, 1, 2, 6)), 6);
        Check.that("a digit 15 of the hour", fault(coded(4, 5, 0, 15, 1, 6, 1, 1, 1, 2, 6)), 6);
        Check.that("a digit 10 of the day", fault(coded(4, 5, 1, 2, 0, 10, 2, 1, 1, 2, 6)), 6);
        Check.that("a digit 10 of the month", fault(coded(4, 5, 1, 2, 1, 6, 5, 0, 10, 2, 6)), 6);
        Check.that("a digit 10 of the year", fault(coded(4, 5, 1, 2, 1, 6, 1, 1, 1, 2, 10)), 6);
        Check.that("a digit 10 of the tens of years", fault(coded(4, 5, 1, 2, 1, 6, 1, 1, 1, 10, 0)), 6);
        Check.that("day 0", fault(coded(4, 5, 1, 2, 0, 0, 1, 1, 1, 2, 6)), 6);
        Check.that("month 0", fault(coded(4, 5, 1, 2, 1, 6, 1, 0, 0, 2, 6)), 6);
        Check.that("month 13", fault(coded(4, 5, 1, 2, 1, 6, 1, 1, 3, 2, 6)), 6);
        Check.that("31 November", fault(coded(4, 5, 1, 2, 3, 1, 2, 1, 1, 2, 6)), 6);
        Check.that("30 November 2026, a Monday", fault(coded(4, 5, 1, 2, 3, 0, 1, 1, 1, 2, 6)), 0);
        Check.that("29 February 2024, a Thursday", fault(coded(4, 5, 1, 2, 2, 9, 4, 0, 2, 2, 4)), 0);
        Check.that("29 February 2023", fault(coded(4, 5, 1, 2, 2, 9, 3, 0, 2, 2, 3)), 6);
        Check.that("29 February 2000, a Tuesday", fault(coded(0, 0, 0, 0, 2, 9, 2, 0, 2, 0, 0)), 0);
        Check.that("31 December 2099, a Thursday", fault(coded(5, 9, 2, 3, 3, 1, 4, 1, 2, 9, 9)), 0);
        for (int weekday = 0; weekday < 8; weekday++) {
            Check.that("weekday " + weekday, fault(coded(4, 5, 1, 2, 1, 6, weekday, 1, 1, 2, 6)), weekday == 1 ? 0 : 7);
        }
    }

    private static void faultsInTheirOrder() {
        String bits = coded(6, 0, 2, 4, 3, 1, 0, 1, 1, 2, 6);
        Check.that("6 is ahead of 7", fault(bits), 6);
        Check.that("weekday 7", fault(coded(5, 9, 2, 3, 3, 0, 7, 1, 1, 2, 6)), 7);
        bits = Check.with(bits, 58, 1 - (bits.charAt(58) - '0'));
        Check.that("5 is ahead of 6", fault(bits), 5);
        bits = Check.with(bits, 35, 1 - (bits.charAt(35) - '0'));
        Check.that("4 is ahead of 5", fault(bits), 4);
        bits = Check.with(bits, 28, 1 - (bits.charAt(28) - '0'));
        Check.that("3 is ahead of 4", fault(bits), 3);
        bits = Check.with(bits, 20, 0);
        Check.that("2 is ahead of 3", fault(bits), 2);
        bits = Check.with(bits, 50, 2);
        Check.that("1 is ahead of 2", fault(bits), 1);
    }

    private static void bitsThatNeverMatter() {
        String bits = noon();
        for (int second = 1; second <= 18; second++) {
            bits = Check.with(bits, second, second % 3);
        }
        RadioClock x = frameOf(bits);
        Check.that("fault", x.frame(0, 1), 0);
        Check.that("told", x.frame(0, 2), NOON);
        Check.that("doubtful bits", x.frame(0, 0), 0);
        Check.that("weakest", x.weakest(), 0);
        for (int second = 1; second <= 18; second++) {
            Check.that("bit " + second, x.frameBit(0, second), second % 3);
        }
    }

    private static void mending() {
        String noon = noon();
        for (int second = 0; second < 59; second++) {
            if (second == 0 || second > 19) {
                RadioClock x = frameOf(Check.with(noon, second, 2));
                Check.that("not mended at first", x.frame(0, 2), -1);
                x.set(3, 1);
                Check.that("mended second " + second, x.frame(0, 2), NOON);
                Check.that("the fault stays", x.frame(0, 1), 1);
                Check.that("the bit stays", x.frameBit(0, second), 2);
            }
        }
        // One in each block, so that each parity tells its own.
        RadioClock x = frameOf(Check.with(Check.with(Check.with(noon, 21, 2), 29, 2), 58, 2));
        for (int mend = 0; mend <= 3; mend++) {
            x.set(3, mend);
            Check.that("three doubtful bits with mend " + mend, x.frame(0, 2), mend == 3 ? NOON : -1);
        }
        RadioClock y = frameOf(Check.with(Check.with(Check.with(Check.with(noon, 21, 2), 29, 2), 58, 2), 0, 2));
        y.set(3, 3);
        Check.that("four doubtful bits", y.frame(0, 2), -1);
        Check.that("doubtful bits", y.frame(0, 0), 4);
        RadioClock z = frameOf(Check.with(Check.with(noon, 0, 2), 20, 2));
        z.set(3, 2);
        Check.that("the bits 0 and 20", z.frame(0, 2), NOON);
        RadioClock w = frameOf(Check.with(Check.with(noon, 22, 2), 30, 1 - (noon.charAt(30) - '0')));
        w.set(3, 3);
        Check.that("no way leaves no fault", w.frame(0, 2), -1);
        RadioClock v = frameOf(Check.with(Check.with(noon, 22, 2), 5, 2));
        v.set(3, 1);
        Check.that("bits that never matter do not count", v.frame(0, 2), NOON);
    }

    private static void bitNineteen() {
        String noon = noon();
        RadioClock x = frameOf(Check.with(noon, 19, 2));
        x.set(3, 3);
        Check.that("both values would do", x.frame(0, 2), -1);
        Check.that("the bit 19", x.frame(0, 3), 2);
        Check.that("the bit 19", frameOf(Check.with(noon, 19, 1)).frame(0, 3), 1);
        Check.that("the bit 19", frameOf(noon).frame(0, 3), 0);
    }

    private static void severalWays() {
        // Bits of one block: 12:45 with the bits 21 and 22 doubtful might be 12:45 or 12:46, by parity.
        RadioClock x = frameOf(Check.with(Check.with(noon(), 21, 2), 22, 2));
        x.set(3, 3);
        Check.that("two ways", x.frame(0, 2), -1);
        // 48 has the last digit 8: with the bits 22 and 24 doubtful it might be 10, which is no digit.
        String bits = Check.bits(x, NOON + 3, false);
        RadioClock y = frameOf(Check.with(Check.with(bits, 22, 2), 24, 2));
        y.set(3, 2);
        Check.that("parity leaves 42 and 48", y.frame(0, 2), -1);
        RadioClock z = frameOf(Check.with(Check.with(Check.bits(x, NOON + 4, false), 22, 2), 23, 2));
        z.set(3, 2);
        Check.that("49 or a digit 15", z.frame(0, 2), NOON + 4);
        // The weekday tells which day it is.
        RadioClock w = frameOf(Check.with(Check.with(noon(), 36, 2), 37, 2));
        w.set(3, 2);
        Check.that("day 16 or 19: the weekday tells", w.frame(0, 2), NOON);
    }

    private static RadioClock frames(int... minutes) {
        RadioClock x = Check.atSecondZero();
        x.set(2, 8);
        for (int minute : minutes) {
            Check.minute(x, minute < 0 ? "0".repeat(59) : Check.bits(x, minute, false), 0);
        }
        return x;
    }

    private static void votesAndFavourite() {
        RadioClock x = new RadioClock();
        Check.fails("no votes", Check.MISSING, x::favourite);
        Check.that("no votes", x.votes(0), 0);
        Check.that("no votes for NONE", x.votes(-1), 0);
        RadioClock y = frames(-1, -1);
        Check.fails("frames that tell nothing", Check.MISSING, y::favourite);
        Check.that("they do not vote for NONE", y.votes(-1), 0);
        RadioClock z = frames(100, 101, 500, 103, 104);
        Check.that("votes for 104", z.votes(104), 4);
        Check.that("votes for 502", z.votes(502), 1);
        Check.that("votes for 500", z.votes(500), 0);
        Check.that("votes for any number", z.votes(Integer.MIN_VALUE) + z.votes(Integer.MAX_VALUE), 0);
        Check.that("favourite", z.favourite(), 104);
        RadioClock w = frames(700, 100, -1, 703);
        Check.that("votes for 703", w.votes(703), 2);
        Check.that("favourite", w.favourite(), 703);
        RadioClock v = frames(900, 500, 301, 800);
        Check.that("of several the least", v.favourite(), 302);
        Check.that("of several the least, whatever the quorum", v.count(2), -1);
        RadioClock u = frames(52595999, -1, -1);
        Check.that("a vote for a minute behind the last one", u.votes(52596001), 1);
        Check.that("favourite behind the last one", u.favourite(), 52596001);
        RadioClock t = frames(10, 300, 12, 302, 600);
        Check.that("two and two: the least one", t.favourite(), 14);
    }

    private static void mendOfNow() {
        RadioClock x = Check.atSecondZero();
        for (int minute = 100; minute <= 102; minute++) {
            Check.minute(x, Check.with(Check.bits(x, minute, false), 25, 2), 0);
        }
        Check.that("no votes", x.votes(102), 0);
        Check.fails("no favourite", Check.MISSING, x::favourite);
        x.set(3, 1);
        Check.that("favourite by mend as it is now, asked first", x.favourite(), 102);
        Check.that("assembled from blocks", x.assembled(), -1);
        Check.that("favourite, not of the blocks", x.favourite(), 102);
        Check.that("votes by mend as it is now", x.votes(102), 3);
        Check.that("favourite by mend as it is now", x.favourite(), 102);
        Check.that("the told minute waits", x.count(2), -1);
        Check.minute(x, Check.bits(x, 103, false), 0);
        Check.that("the told minute", x.count(2), 103);
        Check.that("its voters", x.count(3), 4);
        x.set(3, 0);
        Check.that("one vote is left", x.votes(103), 1);
        Check.that("the told minute stays", x.count(2), 103);
        Check.that("its voters stay", x.count(3), 4);
        Check.minute(x, Check.bits(x, 104, false), 0);
        Check.that("until the minute ends", x.count(2), -1);
        Check.that("until the minute ends", x.count(3), 0);
    }

    private static void window() {
        RadioClock x = Check.atSecondZero();
        for (int minute = 100; minute < 110; minute++) {
            Check.minute(x, Check.bits(x, minute, false), 0);
            Check.that("frames", x.count(1), Math.min(5, minute - 99));
        }
        for (int k = 0; k < 5; k++) {
            Check.that("frame " + k, x.frame(k, 2), 109 - k);
        }
        x.set(2, 8);
        for (int minute = 110; minute < 115; minute++) {
            Check.minute(x, Check.bits(x, minute, false), 0);
            Check.that("frames", x.count(1), Math.min(8, minute - 104));
        }
        Check.that("the oldest frame", x.frame(7, 2), 107);
        Check.that("voters", x.count(3), 8);
        for (int k = 0; k < 8; k++) {
            String bits = Check.bits(x, 114 - k, false);
            Check.that("fault of frame " + k, x.frame(k, 1), 0);
            for (int second = 0; second < 59; second++) {
                Check.that("bit of frame " + k, x.frameBit(k, second), bits.charAt(second) - '0');
            }
        }
        Check.fails("no older one", Check.INDEX, () -> x.frame(8, 2));
    }

    private static void weakest() {
        RadioClock x = Check.atSecondZero();
        String bits = Check.bits(x, 100, false);
        Check.that("no frames", x.weakest(), 0);
        Check.minute(x, Check.with(bits, 10, 2), 2);
        Check.that("bits 1 to 18 do not count", x.weakest(), 0);
        Check.minute(x, Check.with(Check.with(bits, 0, 2), 10, 2), 2);
        Check.that("the bit 0 counts", x.weakest(), 1);
        Check.minute(x, Check.with(Check.with(bits, 0, 2), 19, 2), 0);
        Check.that("in two frames", x.weakest(), 2);
        Check.minute(x, Check.with(bits, 19, 2), 0);
        Check.minute(x, Check.with(bits, 19, 2), 0);
        Check.that("the bit 19", x.weakest(), 3);
        for (int i = 0; i < 5; i++) {
            Check.minute(x, Check.with(bits, 58, 2), 0);
            Check.minute(x, Check.with(bits, 18, 2), 0);
        }
        Check.that("the bit 58", x.weakest(), 2);
        x.set(2, 3);
        Check.that("of the frames that are left", x.weakest(), 1);
        x.forget();
        Check.that("none is left", x.weakest(), 0);
    }
}
