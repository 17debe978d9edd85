/**
 * The boundary cases of the sections 1 and 2 and of the promises 1, 5, 6, 7, 8, 9, 11 and 26: a test
 * for each sentence of the document that names one.
 */
public final class PulseEdgeTest {
    private static final int LAST = 52595999;
    private static final int END = 2000000000;

    public static void main(String[] args) {
        firstAndLastMinute();
        leapYears();
        edgesOfMonths();
        weekdays();
        wrongNumbers();
        fixedBits();
        digitsAndWeights();
        evenParity();
        newObject();
        timesOfTheReceiver();
        laterThanThePulseBefore();
        afterHearing();
        lengthsOfBits();
        shortPulses();
        firstMark();
        nearestSecond();
        tolerances();
        outOfStepByTime();
        minuteBeginsBehindTwoSeconds();
        positionsInAMinute();
        missedSeconds();
        whereNoMarkMayBe();
        minuteEnds();
        leapMinuteEnds();
        bitsAboveFiftyEight();
        resultsOfPulses();
        countsOfThePresentMinute();
        whatToCount();
        secondsOfBit();
        bitWithoutAPosition();
        forgetting();
        Check.end("PulseEdgeTest");
    }

    private static void firstAndLastMinute() {
        Check.sentence("0 is the first one of the year 2000, 52595999 the last one of the year 2099");
        RadioClock x = new RadioClock();
        Check.that("first", x.number(2000, 1, 1, 0, 0), 0);
        Check.that("last", x.number(2099, 12, 31, 23, 59), LAST);
        int[] first = {2000, 1, 1, 0, 0, 6};
        int[] last = {2099, 12, 31, 23, 59, 4};
        for (int what = 0; what < 6; what++) {
            int asked = what;
            Check.that("part of the first one", x.part(0, what), first[what]);
            Check.that("part of the last one", x.part(LAST, what), last[what]);
            Check.fails("ahead of the first one", Check.ARGUMENT, () -> x.part(-1, asked));
            Check.fails("behind the last one", Check.ARGUMENT, () -> x.part(LAST + 1, asked));
        }
        for (int wrong : new int[] {-1, LAST + 1}) {
            Check.fails("code of " + wrong, Check.ARGUMENT, () -> x.code(wrong, false));
            Check.fails("hear " + wrong, Check.ARGUMENT, () -> x.hear(wrong, false, 0));
            Check.fails("writeTime of " + wrong, Check.ARGUMENT, () -> x.writeTime(wrong));
        }
        Check.that("hear the first one", x.hear(0, false, 0), 59);
        Check.that("hear the last one", x.hear(LAST, false, 0), 59);
        Check.that("write the first one", x.writeTime(0), 18);
        Check.that("write the last one", x.writeTime(LAST), 18);
    }

    private static void leapYears() {
        Check.sentence("leap years as in the usual calendar");
        RadioClock x = new RadioClock();
        for (int year = 2000; year < 2100; year++) {
            int y = year;
            boolean leap = year % 4 == 0;
            Check.that("29 February " + year, Check.answer(() -> x.number(y, 2, 29, 0, 0)).startsWith("throws"), !leap);
            Check.fails("30 February " + year, Check.ARGUMENT, () -> x.number(y, 2, 30, 0, 0));
            int march = x.number(year, 3, 1, 0, 0);
            Check.that("the day ahead of 1 March " + year, x.part(march - 1, 2), leap ? 29 : 28);
            int days = (x.number(year, 12, 31, 0, 0) - x.number(year, 1, 1, 0, 0)) / 1440 + 1;
            Check.that("days of " + year, days, leap ? 366 : 365);
        }
    }

    private static void edgesOfMonths() {
        Check.sentence("Returns a part of the date and the time of a minute: at the first and the last one of each month");
        RadioClock x = new RadioClock();
        for (int year = 2000; year < 2100; year++) {
            for (int month = 1; month <= 12; month++) {
                int first = x.number(year, month, 1, 0, 0);
                int[] due = {year, month, 1, 0, 0};
                for (int what = 0; what < 5; what++) {
                    Check.that("part " + what + " of the first one of " + year + "-" + month, x.part(first, what), due[what]);
                }
                if (first > 0) {
                    int[] before = {month > 1 ? year : year - 1, month > 1 ? month - 1 : 12, 0, 23, 59};
                    for (int what = 0; what < 5; what++) {
                        int part = x.part(first - 1, what);
                        boolean right = what == 2 ? part >= 28 && part <= 31 : part == before[what];
                        Check.that("part " + what + " of the one ahead of " + year + "-" + month, right, true);
                    }
                    Check.that("as a number", x.number(before[0], before[1], x.part(first - 1, 2), 23, 59), first - 1);
                }
            }
        }
    }

    private static void weekdays() {
        Check.sentence("Weekdays are 1 (Monday) to 7 (Sunday); 2000-01-01 was a Saturday.");
        RadioClock x = new RadioClock();
        int[] due = {6, 7, 1, 2, 3, 4, 5, 6, 7, 1};
        for (int day = 0; day < due.length; day++) {
            Check.that("day " + day, x.part(1440 * day, 5), due[day]);
            Check.that("end of the day " + day, x.part(1440 * day + 1439, 5), due[day]);
        }
        Check.that("the last Sunday", x.part(x.number(2099, 12, 27, 0, 0), 5), 7);
        Check.that("the last Monday", x.part(x.number(2099, 12, 28, 0, 0), 5), 1);
    }

    private static void wrongNumbers() {
        Check.sentence("IllegalArgumentException if an argument is out of range, or there is no such day");
        RadioClock x = new RadioClock();
        int[] least = {2000, 1, 1, 0, 0};
        int[] greatest = {2099, 12, 31, 23, 59};
        for (int i = 0; i < 5; i++) {
            int[] below = {2026, 1, 15, 12, 30};
            below[i] = least[i] - 1;
            int[] above = {2026, 1, 15, 12, 30};
            above[i] = greatest[i] + 1;
            int[] lowest = {2026, 1, 15, 12, 30};
            lowest[i] = least[i];
            int[] highest = {2026, 1, 15, 12, 30};
            highest[i] = greatest[i];
            Check.fails("argument " + i + " too small", Check.ARGUMENT, () -> numberOf(x, below));
            Check.fails("argument " + i + " too great", Check.ARGUMENT, () -> numberOf(x, above));
            int what = i;
            Check.that("the least argument " + i, x.part(numberOf(x, lowest), what), least[i]);
            Check.that("the greatest argument " + i, x.part(numberOf(x, highest), what), greatest[i]);
        }
        int[] days = {31, 28, 31, 30, 31, 30, 31, 31, 30, 31, 30, 31};
        for (int month = 1; month <= 12; month++) {
            int m = month;
            Check.that("the last day of the month " + m, x.part(x.number(2026, m, days[m - 1], 0, 0), 2), days[m - 1]);
            Check.fails("the day behind it", Check.ARGUMENT, () -> x.number(2026, m, days[m - 1] + 1, 0, 0));
        }
    }

    private static int numberOf(RadioClock x, int[] t) {
        return x.number(t[0], t[1], t[2], t[3], t[4]);
    }

    private static void fixedBits() {
        Check.sentence("0: always 0. 1 to 18: 0. 19: 1 if a leap second is announced. 20: always 1.");
        RadioClock x = new RadioClock();
        for (int minute : new int[] {0, 1, 57, 58, 59, 60, 14135805, LAST - 1, LAST}) {
            Check.that("the bits 0 to 20 of " + minute, x.code(minute, false) & (1L << 21) - 1, 1L << 20);
            Check.that("with a leap second", x.code(minute, true) & (1L << 21) - 1, 3L << 19);
            Check.that("the other bits", x.code(minute, true) >>> 21, x.code(minute, false) >>> 21);
            Check.that("no bit above 58", x.code(minute, true) >>> 59, 0L);
        }
    }

    private static void digitsAndWeights() {
        Check.sentence("its last digit by the weights 1 to 8, the other one by the weights from 10 on");
        RadioClock x = new RadioClock();
        String head = "0".repeat(20) + "1";
        Check.that("2099-12-31 23:59, a Thursday", Check.bits(x, LAST, false),
            head + "1001101" + "0" + "110001" + "1" + "100011" + "001" + "01001" + "10011001" + "0");
        Check.that("2000-01-01 00:00, a Saturday", Check.bits(x, 0, false),
            head + "0000000" + "0" + "000000" + "0" + "100000" + "011" + "10000" + "00000000" + "0");
        Check.that("2007-10-20 09:08, a Saturday", Check.bits(x, x.number(2007, 10, 20, 9, 8), false),
            head + "0001000" + "1" + "100100" + "0" + "000001" + "011" + "00001" + "11100000" + "1");
        Check.that("2080-09-09 10:10, a Monday", Check.bits(x, x.number(2080, 9, 9, 10, 10), false),
            head + "0000100" + "1" + "000010" + "1" + "100100" + "100" + "10010" + "00000001" + "0");
    }

    private static void evenParity() {
        Check.sentence("A parity bit makes the number of bits with the value 1, itself included, even.");
        RadioClock x = new RadioClock();
        for (int minute = 0; minute <= LAST; minute += 12347) {
            long code = x.code(minute, minute % 2 == 0);
            Check.that("21 to 28 of " + minute, Long.bitCount(code >>> 21 & (1L << 8) - 1) % 2, 0);
            Check.that("29 to 35 of " + minute, Long.bitCount(code >>> 29 & (1L << 7) - 1) % 2, 0);
            Check.that("36 to 58 of " + minute, Long.bitCount(code >>> 36 & (1L << 23) - 1) % 2, 0);
        }
    }

    private static void newObject() {
        Check.sentence("without marks, frames and fixes, an empty text buffer and empty slots");
        RadioClock x = new RadioClock();
        int[] due = {-1, 0, -1, 0, 0, 0, 100, 3, 5, 0, 0, -1, 0, 0};
        for (int what = 0; what < due.length; what++) {
            Check.that("count(" + what + ")", x.count(what), due[what]);
        }
        Check.fails("no frame", Check.INDEX, () -> x.frame(0, 0));
        Check.fails("no frame", Check.INDEX, () -> x.frameBit(0, 0));
        Check.fails("no frame", Check.INDEX, () -> x.block(0, 0));
        Check.fails("no fix", Check.INDEX, () -> x.fix(0, 0));
        Check.fails("no byte of a text", Check.INDEX, () -> x.writtenByte(0));
        Check.fails("the text buffer is empty", Check.ARGUMENT, () -> x.load(1));
        Check.fails("slot 0 is empty", Check.STATE, () -> x.restore(0));
        Check.fails("slot 1 is empty", Check.STATE, () -> x.restore(1));
        Check.fails("no change", Check.STATE, x::undo);
        Check.that("no error", x.errorPosition(), -1);
        Check.that("load of an empty text", x.load(0), 0);
    }

    private static void timesOfTheReceiver() {
        Check.sentence("Times of the receiver are in milliseconds, 0 to 2000000000.");
        RadioClock x = new RadioClock();
        Check.fails("too small", Check.ARGUMENT, () -> x.pulse(-1, 100));
        Check.fails("too great", Check.ARGUMENT, () -> x.pulse(END + 1, 100));
        Check.that("0", x.pulse(0, 100), 1);
        Check.that("2000000000", x.pulse(END, 100), 4);
        Check.that("the last mark", x.count(11), END);
        Check.sentence("length: 0 to 9999");
        RadioClock y = new RadioClock();
        Check.fails("too small", Check.ARGUMENT, () -> y.pulse(0, -1));
        Check.fails("too great", Check.ARGUMENT, () -> y.pulse(0, 10000));
        Check.that("0", y.pulse(0, 0), 0);
        Check.that("9999", y.pulse(1, 9999), 1);
    }

    private static void laterThanThePulseBefore() {
        Check.sentence("which must be later than that of the pulse before (of any pulse, also one that was ignored)");
        // Behind the mark at 2000: time, length, result.
        int[][] kinds = {{3000, 100, 1}, {3000, 29, 0}, {3500, 100, 0}, {2001, 100, 0}, {4000, 100, 2}, {14000, 100, 4},
            {3101, 100, 0}, {3000, 0, 0}};
        for (int[] kind : kinds) {
            int time = kind[0];
            RadioClock x = Check.atSecondZero();
            Check.that("pulse(" + time + ", " + kind[1] + ")", x.pulse(time, kind[1]), kind[2]);
            String before = Check.state(x);
            Check.fails("the same time as " + time, Check.ARGUMENT, () -> x.pulse(time, 100));
            Check.fails("earlier than " + time, Check.ARGUMENT, () -> x.pulse(time - 1, 100));
            Check.fails("the time 0", Check.ARGUMENT, () -> x.pulse(0, 29));
            Check.that("nothing changed", Check.state(x), before);
            Check.that("later than " + time, x.pulse(time + 1, 29), 0);
        }
        RadioClock y = Check.atSecondZero();
        y.pulse(2900, 29);
        y.undo();
        Check.that("an undone pulse is none that was before", y.pulse(2800, 29), 0);
        RadioClock z = Check.atSecondZero();
        z.pulse(2900, 29);
        z.forget();
        Check.fails("forget leaves it", Check.ARGUMENT, () -> z.pulse(2900, 29));
        Check.load(z, "");
        Check.that("a receiver that is read has none", z.pulse(0, 29), 0);
    }

    private static void afterHearing() {
        Check.sentence("(of any pulse, also one that was ignored): of those that are heard too");
        RadioClock x = new RadioClock();
        x.hear(5, false, 0);
        Check.fails("the time of the second 58", Check.ARGUMENT, () -> x.pulse(58000, 100));
        Check.that("one later", x.pulse(58001, 100), 0);
        RadioClock y = new RadioClock();
        y.hear(5, false, 1L << 58 | 1L << 57);
        Check.fails("the time of the second 56", Check.ARGUMENT, () -> y.pulse(56000, 100));
        Check.that("lost pulses were none", y.pulse(57000, 100), 1);
    }

    private static void lengthsOfBits() {
        Check.sentence("a length of 60 to 140 has the bit 0, one of 160 to 240 the bit 1, any other one is doubtful (bit 2)");
        int[] lengths = {30, 59, 60, 140, 141, 159, 160, 240, 241, 9999};
        int[] bits = {2, 2, 0, 0, 2, 2, 1, 1, 2, 2};
        for (int i = 0; i < lengths.length; i++) {
            RadioClock x = new RadioClock();
            x.pulse(0, 100);
            x.pulse(2000, lengths[i]);
            Check.that("the bit 0 by " + lengths[i], x.bit(0), bits[i]);
            x.pulse(3000, lengths[i]);
            Check.that("the bit 1 by " + lengths[i], x.bit(1), bits[i]);
            RadioClock y = Check.atPosition(57);
            y.pulse(60000, lengths[i]);
            Check.that("the bit 58 by " + lengths[i], y.bit(58), bits[i]);
            y.pulse(62000, lengths[i]);
            Check.that("the bit 0 of the next minute by " + lengths[i], y.bit(0), bits[i]);
            Check.that("the bit 58 of the frame by " + lengths[i], y.frameBit(0, 58), bits[i]);
        }
    }

    private static void shortPulses() {
        Check.sentence("A pulse with a length below 30 is ignored.");
        for (int length : new int[] {0, 29}) {
            RadioClock x = new RadioClock();
            Check.that("without a mark", x.pulse(0, length), 0);
            Check.that("still no mark", x.count(11), -1);
            Check.that("30 is not below 30", x.pulse(1, 30), 1);
            Check.that("without a position", x.pulse(2001, length), 0);
            Check.that("no minute began", x.count(0), -1);
            Check.that("30 is not below 30", x.pulse(2002, 30), 3);
            Check.that("in a minute", x.pulse(3002, length), 0);
            Check.that("the position stays", x.count(0), 0);
            Check.that("30 is not below 30", x.pulse(3003, 30), 1);
            Check.that("ignored ones", x.count(13), 3);
            Check.that("the last mark", x.count(11), 3003);
            RadioClock y = Check.atPosition(58);
            Check.that("where no mark may be", y.pulse(61000, length), 0);
            Check.that("the position stays", y.count(0), 58);
            Check.that("at the end of the minute", y.pulse(62000, length), 0);
            Check.that("no frame", y.count(1), 0);
            Check.that("30 is not below 30", y.pulse(62001, 30), 3);
            Check.that("behind 11 seconds", y.pulse(73001, length), 0);
            Check.that("the frame stays", y.count(1), 1);
            Check.that("the position stays", y.count(0), 0);
            Check.that("30 is not below 30", y.pulse(73002, 30), 4);
        }
    }

    private static void firstMark() {
        Check.sentence("If there is no last mark, any other pulse is the last mark then, and the position is NONE.");
        for (int time : new int[] {0, 1, 499, 2000, 10500, END}) {
            for (int length : new int[] {30, 59, 100, 150, 200, 9999}) {
                RadioClock x = new RadioClock();
                Check.that("pulse(" + time + ", " + length + ")", x.pulse(time, length), 1);
                Check.that("the last mark", x.count(11), time);
                Check.that("the position", x.count(0), -1);
                Check.that("none was ignored", x.count(13), 0);
            }
        }
    }

    private static void nearestSecond() {
        Check.sentence("k = (d + 500) / 1000, rounded down");
        // With the tolerance 200, so that the steps of k are seen from both sides.
        int[] d = {1, 200, 499, 500, 799, 800, 1000, 1200, 1201, 1499, 1500, 1799, 1800, 2000, 2200, 2201, 2799, 2800, 9800,
            10000, 10200, 10201, 10499, 10500, 10999, 11000, 11499, 11500};
        int[] due = {0, 0, 0, 0, 0, 1, 1, 1, 0, 0, 0, 0, 3, 3, 3, 0, 0, 1, 1, 1, 1, 0, 0, 4, 4, 4, 4, 4};
        for (int i = 0; i < d.length; i++) {
            for (int first : new int[] {0, 1, 1999, END - 20000}) {
                RadioClock x = new RadioClock();
                x.set(0, 200);
                x.pulse(first, 100);
                Check.that(d[i] + " behind " + first, x.pulse(first + d[i], 100), due[i]);
            }
        }
        RadioClock y = new RadioClock();
        y.pulse(0, 100);
        Check.that("the greatest d", y.pulse(END, 100), 4);
    }

    private static void tolerances() {
        Check.sentence("the absolute value of d - 1000 * k is greater than the tolerance (10 to 200, at first 100)");
        for (int tolerance : new int[] {10, 100, 200}) {
            for (int k : new int[] {1, 2, 10}) {
                for (int off : new int[] {tolerance, -tolerance, tolerance + 1, -tolerance - 1}) {
                    RadioClock x = Check.atSecondZero();
                    if (tolerance != 100) {
                        x.set(0, tolerance);
                    }
                    boolean ignored = Math.abs(off) > tolerance;
                    int time = 2000 + 1000 * k + off;
                    Check.that(k + " seconds and " + off + " with " + tolerance, x.pulse(time, 100), ignored ? 0 : k > 1 ? 2 : 1);
                    Check.that("the last mark", x.count(11), ignored ? 2000 : time);
                    Check.that("ignored ones", x.count(13), ignored ? 1 : 0);
                }
            }
        }
        RadioClock y = new RadioClock();
        Check.fails("9", Check.ARGUMENT, () -> y.set(0, 9));
        Check.fails("201", Check.ARGUMENT, () -> y.set(0, 201));
    }

    private static void outOfStepByTime() {
        Check.sentence("If k is above 10, the receiver is out of step: the pulse is the last mark, the position is NONE, and all"
            + " frames are forgotten.");
        for (int d : new int[] {10000, 10100, 10500, 10501, 11000, 11499, 60000}) {
            boolean out = d >= 10500;
            RadioClock x = new RadioClock();
            x.pulse(0, 100);
            Check.that("without a position, " + d, x.pulse(d, 100), out ? 4 : 1);
            Check.that("the last mark", x.count(11), d);
            RadioClock y = Check.behind(3, 100, 3);
            int mark = y.count(11);
            Check.that("with frames, " + d, y.pulse(mark + d, 100), out ? 4 : 2);
            int[] due = {out ? -1 : 10, out ? 0 : 3, out ? -1 : 102, out ? 0 : 3, out ? 0 : 60, 1, 100, 3, 5, 0, 0, mark + d,
                out ? 0 : 9, 0};
            for (int what = 0; what < due.length; what++) {
                Check.that("count(" + what + ") behind " + d, y.count(what), due[what]);
            }
            Check.that("frames", Check.answer(() -> y.frame(0, 0)), out ? "throws.IndexOutOfBoundsException" : "0");
        }
    }

    private static void minuteBeginsBehindTwoSeconds() {
        Check.sentence("if k is 2, a minute begins; if k is another number, the position stays NONE");
        for (int k = 1; k <= 10; k++) {
            for (int bit = 0; bit <= 2; bit++) {
                RadioClock x = new RadioClock();
                x.pulse(0, 100);
                Check.that("k is " + k, x.pulse(1000 * k, Check.lengthOf(bit)), k == 2 ? 3 : 1);
                Check.that("the position", x.count(0), k == 2 ? 0 : -1);
                Check.that("the last mark", x.count(11), 1000 * k);
                Check.that("the bit 0", Check.answer(() -> x.bit(0)), k == 2 ? "" + bit : "throws.IndexOutOfBoundsException");
            }
        }
    }

    private static void positionsInAMinute() {
        Check.sentence("If q is less than n - 1, the position is q");
        for (int p = 48; p <= 57; p++) {
            RadioClock x = Check.atPosition(p);
            Check.that("from " + p + " to 58", x.pulse(2000 + 58000, 200), p < 57 ? 2 : 1);
            Check.that("the position", x.count(0), 58);
            Check.that("its bit", x.bit(58), 1);
            Check.that("no frame", x.count(1), 0);
        }
        for (int p = 49; p <= 58; p++) {
            RadioClock x = Check.inLeapMinute(p);
            Check.that("of 61 seconds, from " + p + " to 59", x.pulse(122000 + 59000, 200), p < 58 ? 2 : 1);
            Check.that("the position", x.count(0), 59);
            Check.that("no other frame", x.count(1), 2);
        }
    }

    private static void missedSeconds() {
        Check.sentence("the bits of the seconds from p + 1 to q - 1 are doubtful, and that of q is that of the pulse");
        for (int k = 1; k <= 10; k++) {
            RadioClock x = Check.atSecondZero();
            x.pulse(3000, 200);
            Check.that(k + " seconds", x.pulse(3000 + 1000 * k, 200), k > 1 ? 2 : 1);
            for (int second = 0; second <= 1 + k; second++) {
                Check.that("bit " + second, x.bit(second), second == 0 ? 0 : second == 1 || second == 1 + k ? 1 : 2);
            }
            Check.that("doubtful ones", x.count(12), k - 1);
        }
    }

    private static void whereNoMarkMayBe() {
        Check.sentence("If q is n - 1, where no mark may be, the receiver is out of step (as above).");
        for (int p = 49; p <= 58; p++) {
            RadioClock x = Check.atPosition(p);
            Check.that("from " + p, x.pulse(2000 + 59000, 100), 4);
            Check.that("the position", x.count(0), -1);
            Check.that("the last mark", x.count(11), 61000);
            Check.that("no frame", x.count(1), 0);
            Check.that("not ignored", x.count(13), 0);
        }
        for (int p = 50; p <= 59; p++) {
            RadioClock x = Check.inLeapMinute(p);
            Check.that("frames", x.count(1), 2);
            Check.that("a told minute", x.count(2), 58);
            Check.that("of 61 seconds, from " + p, x.pulse(122000 + 60000, 100), 4);
            Check.that("frames are forgotten", x.count(1), 0);
            Check.that("no told minute", x.count(2), -1);
            Check.that("no voters", x.count(3), 0);
            Check.that("the fix stays", x.count(5), 1);
        }
    }

    private static void minuteEnds() {
        Check.sentence("If q is at least n, the present minute ends: then a minute begins with the position q - n");
        for (int p = 50; p <= 58; p++) {
            for (int q = 60; q <= p + 10; q++) {
                RadioClock x = Check.atPosition(p);
                Check.that("from " + p + " to " + q, x.pulse(2000 + 1000 * q, 200), 3);
                ended(x, p, q - 60);
                Check.that("frames", x.count(1), 1);
            }
        }
    }

    private static void leapMinuteEnds() {
        Check.sentence("let n be the length of the present minute: of 61 seconds");
        for (int p = 51; p <= 59; p++) {
            for (int q = 61; q <= p + 10; q++) {
                RadioClock x = Check.inLeapMinute(p);
                Check.that("from " + p + " to " + q, x.pulse(122000 + 1000 * q, 200), 3);
                ended(x, p, q - 61);
                Check.that("frames", x.count(1), 3);
            }
        }
    }

    /** Behind a minute that ended at a position: the bits of its frame and of the new minute. */
    private static void ended(RadioClock x, int p, int position) {
        Check.that("the position", x.count(0), position);
        Check.that("the length", x.count(4), 60);
        for (int second = 0; second <= 58; second++) {
            Check.that("bit " + second + " of the frame", x.frameBit(0, second), second > p ? 2 : 0);
        }
        for (int second = 0; second < position; second++) {
            Check.that("ahead of the position", x.bit(second), 2);
        }
        Check.that("at the position", x.bit(position), 1);
        Check.fails("behind the position", Check.INDEX, () -> x.bit(position + 1));
    }

    private static void bitsAboveFiftyEight() {
        Check.sentence("(Bits of seconds above 58 are not kept.)");
        for (int bit = 0; bit <= 2; bit++) {
            RadioClock x = Check.inLeapMinute(58);
            Check.that("the second 59", x.pulse(122000 + 59000, Check.lengthOf(bit)), 1);
            Check.fails("no bit of it", Check.INDEX, () -> x.bit(59));
            Check.that("no doubtful one", x.count(12), 0);
            Check.that("the bit 58", x.bit(58), 0);
            x.pulse(122000 + 61000, 100);
            Check.that("no doubtful one in the frame", x.frame(0, 0), 0);
            Check.fails("no bit of it in the frame", Check.INDEX, () -> x.frameBit(0, 59));
        }
        RadioClock y = Check.inLeapMinute(57);
        y.pulse(122000 + 59000, 300);
        Check.that("the bit 58 alone is doubtful", y.count(12), 1);
        Check.that("that bit", y.bit(58), 2);
    }

    private static void resultsOfPulses() {
        Check.sentence("0 if it was ignored, 3 if a minute began, 4 if the receiver is out of step by it, 2 if a position p became"
            + " q with k above 1 in the same minute, otherwise 1");
        RadioClock x = new RadioClock();
        int[][] run = {{0, 29, 0}, {1, 100, 1}, {501, 100, 0}, {3001, 100, 1}, {5001, 100, 3}, {6001, 100, 1}, {8001, 100, 2},
            {9500, 100, 0}, {18001, 100, 2}, {28001, 100, 2}, {38001, 100, 2}, {48001, 100, 2}, {58001, 100, 2},
            {67001, 100, 3}, {68001, 100, 1}, {78501, 100, 4}, {80501, 100, 3}, {89501, 100, 2}, {99501, 100, 2},
            {109501, 100, 2}, {119501, 100, 2}, {129501, 100, 2}, {139501, 100, 4}, {149501, 100, 1}, {160001, 100, 4}};
        for (int[] pulse : run) {
            Check.that("pulse(" + pulse[0] + ", " + pulse[1] + ")", x.pulse(pulse[0], pulse[1]), pulse[2]);
        }
        Check.that("ignored ones", x.count(13), 3);
    }

    private static void countsOfThePresentMinute() {
        Check.sentence("4: the length of the present minute (0 if the position is NONE)");
        RadioClock x = new RadioClock();
        Check.that("at first", x.count(4), 0);
        x.pulse(0, 100);
        Check.that("without a position", x.count(4), 0);
        x.pulse(2000, 100);
        Check.that("in a minute", x.count(4), 60);
        x.forget();
        Check.that("forgotten", x.count(4), 0);
        RadioClock y = Check.inLeapMinute(59);
        Check.that("with a leap second", y.count(4), 61);
        y.pulse(122000 + 60000, 100);
        Check.that("out of step", y.count(4), 0);
        y.pulse(122000 + 62000, 100);
        Check.that("the next minute", y.count(4), 60);
        Check.sentence("12: doubtful bits of the present minute up to the position (seconds up to 58 alone; 0 if the position is NONE)");
        RadioClock z = new RadioClock();
        Check.that("at first", z.count(12), 0);
        z.pulse(0, 300);
        Check.that("without a position", z.count(12), 0);
        z.pulse(2000, 300);
        Check.that("the second 0", z.count(12), 1);
        for (int second = 1; second <= 58; second++) {
            z.pulse(2000 + 1000 * second, 300);
            Check.that("the second " + second, z.count(12), second + 1);
        }
        z.pulse(68000, 300);
        Check.that("the next minute, from the second 6 on", z.count(12), 7);
        z.forget();
        Check.that("forgotten", z.count(12), 0);
    }

    private static void whatToCount() {
        Check.sentence("Returns a number of the receiver. IllegalArgumentException for any other what");
        RadioClock x = Check.behind(2, 57, 2);
        x.set(0, 111);
        x.set(2, 7);
        x.set(3, 1);
        x.set(4, -9);
        x.pulse(x.count(11) + 2000, 29);
        x.pulse(x.count(11) + 3000, 300);
        int[] due = {3, 2, 58, 2, 60, 1, 111, 2, 7, 1, -9, 125000, 3, 1};
        for (int what = 0; what < due.length; what++) {
            Check.that("count(" + what + ")", x.count(what), due[what]);
        }
        for (int what : new int[] {-1, 14, Integer.MIN_VALUE, Integer.MAX_VALUE}) {
            Check.fails("count(" + what + ")", Check.ARGUMENT, () -> x.count(what));
        }
    }

    private static void secondsOfBit() {
        Check.sentence("second: 0 to the position, at most 58");
        for (int p : new int[] {0, 1, 57, 58}) {
            RadioClock x = Check.atPosition(p);
            Check.that("bit 0 at " + p, x.bit(0), 0);
            Check.that("bit at " + p, x.bit(p), 0);
            for (int second : new int[] {-1, p + 1, 59, 60, 64, Integer.MIN_VALUE, Integer.MAX_VALUE}) {
                Check.fails("bit(" + second + ") at " + p, Check.INDEX, () -> x.bit(second));
            }
        }
        RadioClock y = Check.inLeapMinute(59);
        Check.that("bit 58 at 59", y.bit(58), 0);
        Check.fails("bit 59 at 59", Check.INDEX, () -> y.bit(59));
    }

    private static void bitWithoutAPosition() {
        Check.sentence("IndexOutOfBoundsException if second is out of range (always if the position is NONE)");
        RadioClock x = new RadioClock();
        noBits("at first", x);
        x.pulse(0, 100);
        noBits("behind the first mark", x);
        x.pulse(2000, 200);
        x.pulse(3000, 200);
        x.forget();
        noBits("forgotten", x);
        x.pulse(5000, 200);
        x.pulse(15500, 200);
        noBits("out of step", x);
    }

    private static void noBits(String when, RadioClock x) {
        for (int second : new int[] {-2, -1, 0, 1, 58, 59}) {
            Check.fails("bit(" + second + ") " + when, Check.INDEX, () -> x.bit(second));
        }
    }

    private static void forgetting() {
        Check.sentence("Makes the position NONE and forgets all frames; the last mark and the fixes stay.");
        RadioClock x = Check.behind(2, 100, 8);
        x.set(2, 8);
        Check.minute(x, Check.bits(x, 108, false), 0);
        x.pulse(x.count(11) + 500, 100);
        int mark = x.count(11);
        Check.that("as many as were kept", x.forget(), 6);
        int[] due = {-1, 0, -1, 0, 0, 8, 100, 2, 8, 0, 0, mark, 0, 1};
        for (int what = 0; what < due.length; what++) {
            Check.that("count(" + what + ")", x.count(what), due[what]);
        }
        Check.that("the latest fix", x.fix(0, 0), 109);
        Check.that("no votes", x.votes(108), 0);
        Check.that("no doubtful bit", x.weakest(), 0);
        Check.that("nothing to assemble", x.assembled(), -1);
        Check.that("again: none were kept", x.forget(), 0);
        Check.that("a new receiver", new RadioClock().forget(), 0);
        Check.that("one second behind the mark", x.pulse(mark + 1000, 100), 1);
        Check.that("the position stays NONE", x.count(0), -1);
    }
}
