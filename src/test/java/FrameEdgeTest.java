/**
 * The boundary cases of the sections 3 and 4 and of the promises 12 to 20: a test for each sentence of
 * the document that names one.
 */
public final class FrameEdgeTest {
    private static final int NOON = 14135805;
    private static final int LAST = 52595999;
    private static final int DAY = NOON / 1440;

    public static void main(String[] args) {
        windows();
        firstFault();
        fixedBitsFault();
        parityFaults();
        digitFaults();
        timeFaults();
        dateFaults();
        weekdayFault();
        asManyAsMendTells();
        justOneWay();
        otherFramesTellNothing();
        votesForLaterMinutes();
        quorums();
        moreThanAnyOther();
        noToldMinute();
        changesThatWait();
        minuteAndTimeOfAFix();
        eightFixes();
        indexOfAFix();
        soundBlocks();
        valuesOfBlocks();
        minutesRoundTheHour();
        sameHour();
        quorumOfEachPart();
        winnerOfEachPart();
        forgottenFramesHaveNoVote();
        numbersOfAFrame();
        secondsOfAFrame();
        anyMinute();
        leastFavourite();
        dissenters();
        weakestBits();
        Check.end("FrameEdgeTest");
    }

    private static String noon() {
        return Check.bits(new RadioClock(), NOON, false);
    }

    /** Frames of the minutes from noon on, as many as there are texts of seconds that are doubtful in them. */
    private static RadioClock doubtful(int quorum, String... seconds) {
        RadioClock x = Check.atSecondZero();
        x.set(1, quorum);
        x.set(2, 8);
        for (int i = 0; i < seconds.length; i++) {
            Check.minute(x, with(Check.bits(x, NOON + i, false), seconds[i]), 0);
        }
        return x;
    }

    private static String with(String bits, String doubtful) {
        String changed = bits;
        for (String second : doubtful.split(" ")) {
            changed = second.isEmpty() ? changed : Check.with(changed, Integer.parseInt(second), 2);
        }
        return changed;
    }

    private static void windows() {
        Check.sentence("The latest frames are kept, as many as the window (3 to 8, at first 5) tells; frame 0 is the latest one.");
        for (int window = 3; window <= 8; window++) {
            RadioClock x = Check.atSecondZero();
            if (window != 5) {
                x.set(2, window);
            }
            for (int i = 1; i <= 10; i++) {
                Check.minute(x, Check.with(Check.bits(x, NOON + i, false), 40 + i, 2), 0);
                int kept = Math.min(i, window);
                Check.that("frames with the window " + window, x.count(1), kept);
                Check.fails("no older frame", Check.INDEX, () -> x.frame(kept, 0));
                Check.fails("no older frame", Check.INDEX, () -> x.frameBit(kept, 0));
                Check.fails("no older frame", Check.INDEX, () -> x.block(kept, 0));
                for (int k = 0; k < kept; k++) {
                    Check.that("the doubtful bit of frame " + k, x.frameBit(k, 40 + i - k), 2);
                    Check.that("no other one", x.frame(k, 0), 1);
                    Check.that("its minute", x.block(k, 0), 45 + i - k);
                }
            }
        }
        RadioClock y = new RadioClock();
        Check.fails("2", Check.ARGUMENT, () -> y.set(2, 2));
        Check.fails("9", Check.ARGUMENT, () -> y.set(2, 9));
    }

    private static int fault(String bits) {
        return FrameTest.frameOf(bits).frame(0, 1);
    }

    private static void firstFault() {
        Check.sentence("1 a bit of the seconds 0 and 19 to 58 is doubtful");
        String bits = noon();
        for (int second = 0; second <= 58; second++) {
            boolean matters = second == 0 || second >= 19;
            Check.that("second " + second, fault(Check.with(bits, second, 2)), matters ? 1 : 0);
        }
        Check.that("1 is the first one that applies", fault(Check.with("0".repeat(59), 58, 2)), 1);
    }

    private static void fixedBitsFault() {
        Check.sentence("2 the bit 0 is not 0, or the bit 20 is not 1");
        Check.that("the bit 0", fault(Check.with(noon(), 0, 1)), 2);
        Check.that("the bit 20", fault(Check.with(noon(), 20, 0)), 2);
        Check.that("both", fault(Check.with(Check.with(noon(), 0, 1), 20, 0)), 2);
        Check.that("the bit 19 does not matter", fault(Check.with(noon(), 19, 1)), 0);
        Check.that("2 is ahead of 3", fault(Check.with(Check.with(noon(), 20, 0), 21, 0)), 2);
    }

    private static void parityFaults() {
        Check.sentence("3, 4, 5 the number of bits 1 from 21 to 28, from 29 to 35, from 36 to 58 is odd");
        for (int second = 21; second <= 58; second++) {
            String one = Check.with(noon(), second, '1' - noon().charAt(second));
            Check.that("second " + second, fault(one), second < 29 ? 3 : second < 36 ? 4 : 5);
        }
        Check.that("3 is ahead of 4", fault(Check.with(Check.with(noon(), 28, 0), 29, 1)), 3);
        Check.that("4 is ahead of 5", fault(Check.with(Check.with(noon(), 35, 1), 58, 1)), 4);
        Check.that("5 is ahead of 6", fault(Check.with(FrameTest.coded(6, 0, 1, 2, 1, 6, 1, 1, 1, 2, 6), 43, 1)), 5);
    }

    private static void digitFaults() {
        Check.sentence("6 a digit is above 9");
        for (int digit = 8; digit <= 15; digit++) {
            Check.that("minute 4?, digit " + digit, fault(FrameTest.coded(4, digit, 1, 2, 1, 6, 1, 1, 1, 2, 6)), digit > 9 ? 6 : 0);
            Check.that("hour 1?, digit " + digit, fault(FrameTest.coded(4, 5, 1, digit, 1, 6, 1, 1, 1, 2, 6)), digit > 9 ? 6 : 0);
        }
        for (int weekday = 0; weekday < 8; weekday++) {
            Check.that("day 0?", fault(FrameTest.coded(4, 5, 1, 2, 0, 10, weekday, 1, 1, 2, 6)), 6);
            Check.that("day 1?", fault(FrameTest.coded(4, 5, 1, 2, 1, 10, weekday, 1, 1, 2, 6)), 6);
            Check.that("month 0?", fault(FrameTest.coded(4, 5, 1, 2, 1, 6, weekday, 0, 10, 2, 6)), 6);
            Check.that("year 2?", fault(FrameTest.coded(4, 5, 1, 2, 1, 6, weekday, 1, 1, 2, 10)), 6);
            Check.that("year ?6", fault(FrameTest.coded(4, 5, 1, 2, 1, 6, weekday, 1, 1, 10, 6)), 6);
            Check.that("year ?6", fault(FrameTest.coded(4, 5, 1, 2, 1, 6, weekday, 1, 1, 15, 6)), 6);
        }
        Check.that("the year 2096, a Friday", fault(FrameTest.coded(4, 5, 1, 2, 1, 6, 5, 1, 1, 9, 6)), 0);
    }

    private static void timeFaults() {
        Check.sentence("the minute above 59, the hour above 23");
        for (int minute = 50; minute < 80; minute++) {
            int due = minute > 59 ? 6 : 0;
            Check.that("minute " + minute, fault(FrameTest.coded(minute / 10, minute % 10, 1, 2, 1, 6, 1, 1, 1, 2, 6)), due);
        }
        for (int hour = 0; hour < 40; hour++) {
            int due = hour > 23 ? 6 : 0;
            Check.that("hour " + hour, fault(FrameTest.coded(4, 5, hour / 10, hour % 10, 1, 6, 1, 1, 1, 2, 6)), due);
        }
    }

    /** Of the weekdays, that which is right, or 6 for all of them if there is no such date. */
    private static int faultOfDate(int day, int month, int year) {
        int least = 7;
        for (int weekday = 1; weekday <= 7; weekday++) {
            String bits = FrameTest.coded(4, 5, 1, 2, day / 10, day % 10, weekday, month / 10, month % 10, year / 10, year % 10);
            least = Math.min(least, fault(bits));
        }
        return least;
    }

    private static void dateFaults() {
        Check.sentence("or there is no such date");
        int[] days = {31, 28, 31, 30, 31, 30, 31, 31, 30, 31, 30, 31};
        for (int month = 1; month <= 12; month++) {
            Check.that("day 0 of the month " + month, faultOfDate(0, month, 26), 6);
            Check.that("day 1 of the month " + month, faultOfDate(1, month, 26), 0);
            Check.that("the last day of the month " + month, faultOfDate(days[month - 1], month, 26), 0);
            Check.that("the day behind it", faultOfDate(days[month - 1] + 1, month, 26), 6);
            Check.that("day 39", faultOfDate(39, month, 26), 6);
        }
        Check.that("month 0", faultOfDate(1, 0, 26), 6);
        Check.that("month 13", faultOfDate(1, 13, 26), 6);
        Check.that("month 19", faultOfDate(1, 19, 26), 6);
        Check.that("29 February 2000", faultOfDate(29, 2, 0), 0);
        Check.that("29 February 2001", faultOfDate(29, 2, 1), 6);
        Check.that("29 February 2096", faultOfDate(29, 2, 96), 0);
        Check.that("29 February 2099", faultOfDate(29, 2, 99), 6);
        Check.that("30 February 2096", faultOfDate(30, 2, 96), 6);
        Check.that("1 January 2000", faultOfDate(1, 1, 0), 0);
        Check.that("31 December 2099", faultOfDate(31, 12, 99), 0);
    }

    private static void weekdayFault() {
        Check.sentence("7 the weekday is wrong; 0 stands for none of them");
        for (int weekday = 0; weekday <= 7; weekday++) {
            Check.that("a Monday told as " + weekday, fault(FrameTest.coded(4, 5, 1, 2, 1, 6, weekday, 1, 1, 2, 6)), weekday == 1 ? 0 : 7);
            Check.that("a Sunday told as " + weekday, fault(FrameTest.coded(4, 5, 1, 2, 1, 5, weekday, 1, 1, 2, 6)), weekday == 7 ? 0 : 7);
        }
        Check.that("6 is ahead of 7", fault(FrameTest.coded(6, 0, 1, 2, 1, 6, 0, 1, 1, 2, 6)), 6);
        for (int minute : new int[] {0, NOON, LAST}) {
            RadioClock x = FrameTest.frameOf(Check.bits(new RadioClock(), minute, true));
            Check.that("no fault", x.frame(0, 1), 0);
            Check.that("it tells its minute", x.frame(0, 2), minute);
        }
    }

    private static void asManyAsMendTells() {
        Check.sentence("A frame with the fault 1 can be mended if at most so many of these bits are doubtful as mend (0 to 3, at first 0)"
            + " tells");
        String[] seconds = {"", "0", "0 58", "0 58 20", "0 58 20 28", "0 58 20 28 29"};
        for (int doubts = 0; doubts <= 5; doubts++) {
            RadioClock x = FrameTest.frameOf(with(noon(), seconds[doubts]));
            Check.that("at first", x.frame(0, 2), doubts == 0 ? NOON : -1);
            Check.that("doubtful bits", x.frame(0, 0), doubts);
            for (int mend = 0; mend <= 3; mend++) {
                x.set(3, mend);
                Check.that(doubts + " doubtful bits with mend " + mend, x.frame(0, 2), doubts <= mend ? NOON : -1);
            }
        }
        RadioClock y = FrameTest.frameOf(with(noon(), "1 2 17 18 20 28 29"));
        y.set(3, 3);
        Check.that("the bits 1 to 18 are none of these", y.frame(0, 2), NOON);
        Check.fails("-1", Check.ARGUMENT, () -> y.set(3, -1));
        Check.fails("4", Check.ARGUMENT, () -> y.set(3, 4));
    }

    private static int mended(String bits) {
        RadioClock x = FrameTest.frameOf(bits);
        x.set(3, 3);
        return x.frame(0, 2);
    }

    private static void justOneWay() {
        Check.sentence("there is just one way to put 0 or 1 in place of them such that no fault is left");
        Check.that("one way", mended(with(noon(), "21")), NOON);
        Check.that("no way: a fault 2 stays", mended(Check.with(with(noon(), "21"), 20, 0)), -1);
        Check.that("no way: a fault 4 stays", mended(Check.with(with(noon(), "21"), 29, 1)), -1);
        Check.that("no way: a fault 7 stays", mended(with(FrameTest.coded(4, 5, 1, 2, 1, 6, 2, 1, 1, 2, 6), "21")), -1);
        Check.that("two ways: 45 or 44 by its parity", mended(with(noon(), "21 28")), -1);
        Check.that("two ways: the bit 19", mended(with(noon(), "19")), -1);
        Check.that("two ways, though one bit more tells itself", mended(with(noon(), "19 20")), -1);
        String fiftyNine = FrameTest.coded(5, 9, 1, 2, 1, 6, 1, 1, 1, 2, 6);
        Check.that("two ways, but one has a digit above 9", mended(with(fiftyNine, "22 28")), NOON + 14);
        Check.that("two ways, but one is the minute 79", mended(with(fiftyNine, "26 28")), NOON + 14);
        String hour = FrameTest.coded(0, 0, 2, 3, 1, 6, 1, 1, 1, 2, 6);
        Check.that("two ways, but one is the hour 27", mended(with(hour, "31 35")), NOON - 765 + 23 * 60);
        Check.that("two ways, but one has another weekday", mended(with(noon(), "36 58")), NOON);
        // 16 March 2026 is a Monday too, and 3 is told by as many bits 1 as 11 is.
        Check.that("two ways of 8: the month", mended(with(noon(), "45 46 49")), -1);
        Check.that("one way of 8: the weekday", mended(with(noon(), "42 43 44")), NOON);
    }

    private static void otherFramesTellNothing() {
        Check.sentence("Other frames tell nothing.");
        String[] frames = {with(noon(), "20 28 29 0"), Check.with(noon(), 0, 1), Check.with(noon(), 28, 0), Check.with(noon(), 35, 1),
            Check.with(noon(), 58, 1 - (noon().charAt(58) - '0')), FrameTest.coded(6, 0, 1, 2, 1, 6, 1, 1, 1, 2, 6),
            FrameTest.coded(4, 5, 1, 2, 1, 6, 2, 1, 1, 2, 6)};
        for (int fault = 1; fault <= 7; fault++) {
            RadioClock x = FrameTest.frameOf(frames[fault - 1]);
            x.set(3, 3);
            Check.that("the fault", x.frame(0, 1), fault);
            Check.that("told by it", x.frame(0, 2), -1);
            Check.that("no vote", x.votes(NOON), 0);
            Check.fails("no favourite", Check.MISSING, x::favourite);
        }
    }

    private static void votesForLaterMinutes() {
        Check.sentence("A frame k that tells the number m votes for m + k");
        RadioClock x = Check.atSecondZero();
        x.set(2, 8);
        Check.minute(x, Check.bits(x, LAST, false), 0);
        for (int k = 0; k < 8; k++) {
            Check.that("frame " + k, x.frame(k, 2), LAST);
            Check.that("its vote", x.votes(LAST + k), 1);
            Check.that("no vote for less", x.votes(LAST + k - 1), 0);
            Check.that("no vote for more", x.votes(LAST + k + 1), 0);
            Check.that("the favourite", x.favourite(), LAST + k);
            Check.minute(x, "0".repeat(59), 0);
        }
        Check.fails("it is forgotten", Check.MISSING, x::favourite);
        RadioClock y = Check.behind(2, 0, 1);
        Check.that("the minute 0", y.votes(0), 1);
        Check.that("the minute 0 is a favourite", y.favourite(), 0);
    }

    private static void quorums() {
        Check.sentence("if a number has at least as many votes as the quorum (2 to 5, at first 3) tells");
        for (int quorum = 2; quorum <= 5; quorum++) {
            RadioClock x = Check.atSecondZero();
            if (quorum != 3) {
                x.set(1, quorum);
            }
            for (int votes = 1; votes <= 6; votes++) {
                Check.minute(x, Check.bits(x, NOON + votes, false), 0);
                Check.that(votes + " votes, quorum " + quorum, x.count(2), votes >= quorum ? NOON + votes : -1);
                Check.that("voters", x.count(3), votes >= quorum ? Math.min(votes, 5) : 0);
                Check.that("fixes", x.count(5), Math.max(0, votes - quorum + 1));
            }
        }
        RadioClock y = new RadioClock();
        Check.fails("1", Check.ARGUMENT, () -> y.set(1, 1));
        Check.fails("6", Check.ARGUMENT, () -> y.set(1, 6));
        RadioClock z = Check.behind(5, NOON, 4);
        z.set(2, 3);
        Check.minute(z, Check.bits(z, NOON + 4, false), 0);
        Check.minute(z, Check.bits(z, NOON + 5, false), 0);
        Check.that("a window below the quorum", z.count(2), -1);
    }

    private static void moreThanAnyOther() {
        Check.sentence("and more than any other number, it is the told minute; otherwise there is none");
        // By the frames: votes for NOON + i, or for another number.
        int[] others = {0, 5000, 0, 5000, 0, 5000, 5000};
        int[] told = {-1, -1, 0, -1, 0, -1, 5000};
        RadioClock x = Check.atSecondZero();
        x.set(1, 2);
        x.set(2, 8);
        for (int i = 0; i < others.length; i++) {
            Check.minute(x, Check.bits(x, NOON + others[i] + i, false), 0);
            Check.that("told behind " + (i + 1), x.count(2), told[i] < 0 ? -1 : NOON + told[i] + i);
            Check.that("voters behind " + (i + 1), x.count(3), told[i] < 0 ? 0 : (i + 2) / 2);
        }
        Check.that("fixes", x.count(5), 3);
    }

    private static void noToldMinute() {
        Check.sentence("otherwise there is none (as at first, and when all frames are forgotten)");
        Check.that("at first", new RadioClock().count(2), -1);
        for (int way = 0; way < 4; way++) {
            RadioClock x = Check.behind(2, 100, 3);
            int mark = x.count(11);
            Check.that("told", x.count(2), 102);
            if (way == 0) {
                x.forget();
            } else if (way == 1) {
                x.pulse(mark + 10500, 100);
            } else if (way == 2) {
                for (int second = 8; second < 59; second += 10) {
                    x.pulse(mark + 1000 * second, 100);
                }
                x.pulse(mark + 59000, 100);
            } else {
                Check.load(x, "");
            }
            Check.that("no frame, way " + way, x.count(1), 0);
            Check.that("none is told, way " + way, x.count(2), -1);
            Check.that("no voters, way " + way, x.count(3), 0);
            x.undo();
            Check.that("told again, way " + way, x.count(2), 102);
        }
    }

    private static void changesThatWait() {
        Check.sentence("(A change of the quorum, the window or mend counts when the next minute ends.)");
        RadioClock x = doubtful(5, "", "", "", "");
        x.set(1, 4);
        Check.that("the quorum waits", x.count(2), -1);
        x.pulse(x.count(11) + 1000, 100);
        Check.that("pulses do not count", x.count(2), -1);
        Check.minute(x, Check.with(Check.bits(x, NOON + 4, false), 20, 2), 0);
        Check.that("it counts", x.count(2), NOON + 4);
        Check.that("no fix was made for the minute before", x.count(5), 1);
        x.set(1, 5);
        Check.that("a greater quorum waits", x.count(2), NOON + 4);
        Check.that("its voters too", x.count(3), 4);
        Check.minute(x, Check.with(Check.bits(x, NOON + 5, false), 20, 2), 0);
        Check.that("it counts", x.count(2), -1);
        Check.that("no voters", x.count(3), 0);
        x.set(3, 1);
        Check.that("mend waits", x.count(2), -1);
        Check.that("mend as it is now", x.votes(NOON + 5), 6);
        Check.minute(x, Check.bits(x, NOON + 6, false), 0);
        Check.that("it counts", x.count(2), NOON + 6);
        Check.that("voters", x.count(3), 7);
        x.set(2, 4);
        Check.that("the window waits", x.count(2), NOON + 6);
        Check.that("the voters of then", x.count(3), 7);
        Check.minute(x, Check.bits(x, NOON + 7, false), 0);
        Check.that("too few for the quorum 5", x.count(2), -1);
    }

    private static void minuteAndTimeOfAFix() {
        Check.sentence("its minute is m + 1, its time is that of the pulse minus 1000 * the position");
        for (int position = 0; position <= 8; position++) {
            for (int off : new int[] {-100, 0, 100}) {
                RadioClock x = Check.behind(3, LAST - 2, 2);
                int base = x.count(11);
                String bits = Check.bits(x, LAST, false);
                for (int second = 1; second <= 58; second++) {
                    x.pulse(base + 1000 * second, Check.lengthOf(bits.charAt(second) - '0'));
                }
                x.pulse(base + 60000 + 1000 * position + off, 100);
                Check.that("its minute", x.fix(0, 0), LAST + 1);
                Check.that("its time", x.fix(0, 1), base + 60000 + off);
                Check.that("the position", x.count(0), position);
            }
        }
    }

    private static void eightFixes() {
        Check.sentence("The latest 8 fixes are kept; fix 0 is the latest one.");
        RadioClock x = Check.behind(2, NOON, 1);
        for (int i = 1; i <= 11; i++) {
            Check.minute(x, Check.bits(x, NOON + i, false), 0);
            int kept = Math.min(i, 8);
            Check.that("fixes", x.count(5), kept);
            Check.fails("no older one", Check.INDEX, () -> x.fix(kept, 0));
            for (int k = 0; k < kept; k++) {
                Check.that("its minute", x.fix(k, 0), NOON + 1 + i - k);
                Check.that("its time", x.fix(k, 1), 62000 + 60000 * (i - k));
            }
        }
    }

    private static void indexOfAFix() {
        Check.sentence("Returns a part of a fix. IndexOutOfBoundsException if the fix does not exist,"
            + " IllegalArgumentException for any other what");
        RadioClock x = Check.behind(2, NOON, 3);
        for (int fix : new int[] {-1, 2, 3, 7, 8, Integer.MIN_VALUE, Integer.MAX_VALUE}) {
            for (int what : new int[] {-1, 0, 1, 2}) {
                Check.fails("fix(" + fix + ", " + what + ")", Check.INDEX, () -> x.fix(fix, what));
            }
        }
        for (int what : new int[] {-1, 2, Integer.MIN_VALUE, Integer.MAX_VALUE}) {
            Check.fails("fix(1, " + what + ")", Check.ARGUMENT, () -> x.fix(1, what));
        }
        Check.that("the minute of fix 1", x.fix(1, 0), NOON + 2);
        Check.that("the time of fix 1", x.fix(1, 1), 122000);
    }

    private static String blocks(String bits) {
        RadioClock x = FrameTest.frameOf(bits);
        return x.block(0, 0) + " " + x.block(0, 1) + " " + x.block(0, 2);
    }

    private static void soundBlocks() {
        Check.sentence("A block is sound if none of its bits is doubtful, the number of its bits 1 is even");
        for (int second = 0; second <= 58; second++) {
            String due = (second >= 21 && second <= 28 ? "-1 " : "45 ") + (second >= 29 && second <= 35 ? "-1 " : "12 ")
                + (second >= 36 ? "-1" : "" + DAY);
            Check.that("doubtful second " + second, blocks(Check.with(noon(), second, 2)), due);
            Check.that("odd by the second " + second, blocks(Check.with(noon(), second, '1' - noon().charAt(second))), due);
        }
        Check.sentence("no digit is above 9, and: (block 0) the minute of the hour is at most 59; (block 1) the hour is at most 23");
        for (int minute = 0; minute < 80; minute++) {
            String bits = FrameTest.coded(minute / 10, minute % 10, 1, 2, 1, 6, 1, 1, 1, 2, 6);
            Check.that("minute " + minute, blocks(bits), (minute > 59 ? -1 : minute) + " 12 " + DAY);
        }
        for (int hour = 0; hour < 40; hour++) {
            String bits = FrameTest.coded(4, 5, hour / 10, hour % 10, 1, 6, 1, 1, 1, 2, 6);
            Check.that("hour " + hour, blocks(bits), "45 " + (hour > 23 ? -1 : hour) + " " + DAY);
        }
        for (int digit = 10; digit <= 15; digit++) {
            Check.that("minute", blocks(FrameTest.coded(0, digit, 1, 2, 1, 6, 1, 1, 1, 2, 6)), "-1 12 " + DAY);
            Check.that("hour", blocks(FrameTest.coded(4, 5, 0, digit, 1, 6, 1, 1, 1, 2, 6)), "45 -1 " + DAY);
            for (int weekday = 0; weekday <= 7; weekday++) {
                Check.that("day", blocks(FrameTest.coded(4, 5, 1, 2, 0, digit, weekday, 1, 1, 2, 6)), "45 12 -1");
                Check.that("month", blocks(FrameTest.coded(4, 5, 1, 2, 1, 6, weekday, 0, digit, 2, 6)), "45 12 -1");
                Check.that("year", blocks(FrameTest.coded(4, 5, 1, 2, 1, 6, weekday, 1, 1, 0, digit)), "45 12 -1");
                Check.that("tens of years", blocks(FrameTest.coded(4, 5, 1, 2, 1, 6, weekday, 1, 1, digit, 0)), "45 12 -1");
            }
        }
        Check.sentence("(block 2) there is such a date, and the weekday is right");
        for (int weekday = 0; weekday <= 7; weekday++) {
            Check.that("weekday " + weekday, blocks(FrameTest.coded(4, 5, 1, 2, 1, 6, weekday, 1, 1, 2, 6)), "45 12 " + (weekday == 1 ? DAY : -1));
            Check.that("31 November", blocks(FrameTest.coded(4, 5, 1, 2, 3, 1, weekday, 1, 1, 2, 6)), "45 12 -1");
            Check.that("day 0", blocks(FrameTest.coded(4, 5, 1, 2, 0, 0, weekday, 1, 1, 2, 6)), "45 12 -1");
            Check.that("month 0", blocks(FrameTest.coded(4, 5, 1, 2, 1, 6, weekday, 0, 0, 2, 6)), "45 12 -1");
            Check.that("month 13", blocks(FrameTest.coded(4, 5, 1, 2, 1, 6, weekday, 1, 3, 2, 6)), "45 12 -1");
            Check.that("29 February 2023", blocks(FrameTest.coded(4, 5, 1, 2, 2, 9, weekday, 0, 2, 2, 3)), "45 12 -1");
        }
    }

    private static void valuesOfBlocks() {
        Check.sentence("The value of a sound block is the minute of the hour, the hour, or the number of days from 2000-01-01 to the date.");
        Check.that("the first minute", blocks(Check.bits(new RadioClock(), 0, false)), "0 0 0");
        Check.that("the last minute", blocks(Check.bits(new RadioClock(), LAST, false)), "59 23 36524");
        Check.that("29 February 2000", blocks(Check.bits(new RadioClock(), 59 * 1440, false)), "0 0 59");
        Check.that("another block does not matter", blocks(Check.with(Check.bits(new RadioClock(), LAST, false), 20, 0)), "59 23 36524");
        Check.sentence("IllegalArgumentException if block is out of range");
        RadioClock x = Check.behind(3, NOON, 2);
        for (int block : new int[] {-1, 3, Integer.MIN_VALUE, Integer.MAX_VALUE}) {
            Check.fails("block(1, " + block + ")", Check.ARGUMENT, () -> x.block(1, block));
            Check.fails("block(2, " + block + ")", Check.INDEX, () -> x.block(2, block));
            Check.fails("block(-1, " + block + ")", Check.INDEX, () -> x.block(-1, block));
        }
    }

    /** Frames of some minutes in turn; the blocks in the texts are spoilt by a doubtful bit. */
    private static RadioClock spoilt(int quorum, int first, String... blocks) {
        String[] seconds = {"22", "30", "40"};
        RadioClock x = Check.atSecondZero();
        x.set(1, quorum);
        x.set(2, 8);
        for (int i = 0; i < blocks.length; i++) {
            String bits = Check.bits(x, first + i, false);
            for (int block = 0; block <= 2; block++) {
                bits = blocks[i].contains("" + block) ? with(bits, seconds[block]) : bits;
            }
            Check.minute(x, bits, 0);
        }
        return x;
    }

    private static void minutesRoundTheHour() {
        Check.sentence("each frame k with a sound block 0 votes for (its value + k) % 60");
        int hour = (DAY * 24 + 7) * 60;
        // 57, 58, 59, 0, 1, 2: the minutes of the hour of the older frames go round.
        Check.that("behind a full hour", spoilt(3, hour - 3, "", "", "", "0", "0", "").assembled(), hour + 2);
        Check.that("one vote too few", spoilt(5, hour - 3, "", "", "", "0", "0", "").assembled(), -1);
        Check.that("at its last minute", spoilt(3, hour - 3, "", "", "").assembled(), hour - 1);
    }

    private static void sameHour() {
        Check.sentence("Of the frames k with k at most v (they belong to the same hour)");
        int hour = (DAY * 24 + 24) * 60;
        for (int v = 0; v <= 4; v++) {
            String[] blocks = new String[v + 4];
            java.util.Arrays.fill(blocks, "");
            for (int quorum = 2; quorum <= 5; quorum++) {
                int due = v + 1 >= quorum ? hour + v : -1;
                Check.that("quorum " + quorum + ", minute " + v + " of the hour", spoilt(quorum, hour - 3, blocks).assembled(), due);
            }
        }
        // Frames of the hour before would win if they had a say: 5 against 2 of the new hour.
        Check.that("frames with k above v have no say", spoilt(2, hour - 5, "", "", "", "", "", "", "").assembled(), hour + 1);
    }

    private static void quorumOfEachPart() {
        Check.sentence("For each of the three parts there must be at least as many votes for one value as the quorum tells");
        for (int quorum = 2; quorum <= 5; quorum++) {
            for (int block = 0; block <= 2; block++) {
                for (int sound = quorum - 1; sound <= quorum; sound++) {
                    String[] blocks = new String[7];
                    for (int i = 0; i < 7; i++) {
                        blocks[i] = i < sound ? "" : "" + block;
                    }
                    Check.that("block " + block + " sound in " + sound + " frames, quorum " + quorum,
                        spoilt(quorum, NOON, blocks).assembled(), sound < quorum ? -1 : NOON + 6);
                }
            }
        }
        Check.that("no frames", new RadioClock().assembled(), -1);
    }

    private static void winnerOfEachPart() {
        Check.sentence("and more than for any other value; otherwise no time can be assembled");
        // Every other frame is of another minute of the hour, another hour, or another day.
        int[] jumps = {1, 60, 1440};
        for (int jump : jumps) {
            RadioClock x = Check.atSecondZero();
            x.set(1, 2);
            x.set(2, 8);
            for (int i = 0; i < 7; i++) {
                Check.minute(x, Check.bits(x, NOON + i + (i % 2 == 1 ? jump : 0), false), 0);
                int due = i < 2 || i % 2 == 1 ? -1 : NOON + i;
                Check.that("behind " + (i + 1) + " frames, jump " + jump, x.assembled(), due);
            }
        }
    }

    private static void forgottenFramesHaveNoVote() {
        Check.sentence("If the window becomes smaller, the oldest frames are forgotten at once");
        // In the frames of the new window a block is sound but twice; in older frames it is sound too.
        for (int block = 0; block <= 2; block++) {
            RadioClock x = spoilt(3, NOON, "", "", "", "", "", "" + block, "", "");
            Check.that("eight frames", x.assembled(), NOON + 7);
            Check.that("votes", x.votes(NOON + 7), 7);
            x.set(2, 4);
            Check.that("four frames", x.assembled(), NOON + 7);
            Check.that("votes", x.votes(NOON + 7), 3);
            x.set(2, 3);
            Check.that("three frames", x.assembled(), -1);
            Check.that("votes", x.votes(NOON + 7), 2);
            Check.fails("nothing to dissent from", Check.MISSING, x::dissenting);
            x.set(2, 8);
            Check.that("they stay forgotten", x.assembled(), -1);
            x.forget();
            Check.that("all are forgotten", x.votes(NOON + 7), 0);
            Check.fails("no favourite", Check.MISSING, x::favourite);
            Check.that("no time", x.assembled(), -1);
        }
        RadioClock y = doubtful(3, "58", "58", "58", "58", "58", "21", "58", "22");
        Check.that("weakest of eight", y.weakest(), 6);
        y.set(2, 3);
        Check.that("weakest of three", y.weakest(), 1);
        RadioClock z = doubtful(2, "", "", "", "", "");
        Check.minute(z, Check.bits(z, 7000, false), 0);
        Check.minute(z, Check.bits(z, 7001, false), 0);
        Check.minute(z, Check.bits(z, 7002, false), 0);
        Check.that("5 against 3", z.favourite(), NOON + 7);
        z.set(2, 5);
        Check.that("2 against 3", z.favourite(), 7002);
        Check.that("2 dissent", z.dissenting(), 2);
        z.set(2, 3);
        Check.that("none dissents", z.dissenting(), 0);
    }

    private static void numbersOfAFrame() {
        Check.sentence("Returns a number of a frame. IndexOutOfBoundsException if the frame does not exist,"
            + " IllegalArgumentException for any other what");
        RadioClock x = Check.behind(3, NOON, 3);
        for (int frame : new int[] {-1, 3, 4, 5, 7, 8, Integer.MIN_VALUE, Integer.MAX_VALUE}) {
            for (int what : new int[] {-1, 0, 3, 4}) {
                Check.fails("frame(" + frame + ", " + what + ")", Check.INDEX, () -> x.frame(frame, what));
            }
        }
        for (int what : new int[] {-1, 4, Integer.MIN_VALUE, Integer.MAX_VALUE}) {
            Check.fails("frame(2, " + what + ")", Check.ARGUMENT, () -> x.frame(2, what));
        }
        Check.sentence("3: its bit 19, 2 if it is doubtful");
        for (int bit = 0; bit <= 2; bit++) {
            Check.that("the bit 19", FrameTest.frameOf(Check.with(noon(), 19, bit)).frame(0, 3), bit);
        }
        Check.sentence("0: its doubtful bits (of the seconds 0 and 19 to 58)");
        Check.that("none", FrameTest.frameOf(noon()).frame(0, 0), 0);
        Check.that("all", FrameTest.frameOf("2".repeat(59)).frame(0, 0), 41);
        Check.that("those that do not matter", FrameTest.frameOf("0" + "2".repeat(18) + noon().substring(19)).frame(0, 0), 0);
    }

    private static void secondsOfAFrame() {
        Check.sentence("IndexOutOfBoundsException if the frame or the second does not exist (second: 0 to 58)");
        RadioClock x = FrameTest.frameOf("2" + "0".repeat(57) + "1");
        Check.that("the second 0", x.frameBit(0, 0), 2);
        Check.that("the second 58", x.frameBit(0, 58), 1);
        for (int second : new int[] {-1, 59, 60, 64, Integer.MIN_VALUE, Integer.MAX_VALUE}) {
            Check.fails("frameBit(0, " + second + ")", Check.INDEX, () -> x.frameBit(0, second));
        }
        for (int frame : new int[] {-1, 1, 8, Integer.MIN_VALUE, Integer.MAX_VALUE}) {
            Check.fails("frameBit(" + frame + ", 0)", Check.INDEX, () -> x.frameBit(frame, 0));
            Check.fails("frameBit(" + frame + ", 59)", Check.INDEX, () -> x.frameBit(frame, 59));
        }
    }

    private static void anyMinute() {
        Check.sentence("votes: minute: any number");
        RadioClock x = Check.behind(3, NOON, 3);
        Check.minute(x, "0".repeat(59), 0);
        for (int minute : new int[] {-1, -2, -3, 0, LAST, LAST + 1, NOON + 2, NOON + 4, Integer.MIN_VALUE, Integer.MAX_VALUE}) {
            Check.that("votes(" + minute + ")", x.votes(minute), 0);
            Check.that("without frames", new RadioClock().votes(minute), 0);
        }
        Check.that("votes of three frames", x.votes(NOON + 3), 3);
    }

    private static void leastFavourite() {
        Check.sentence("Returns the number, of several the least one. NoSuchElementException if there are no votes");
        Check.fails("no frames", Check.MISSING, () -> new RadioClock().favourite());
        Check.fails("no votes", Check.MISSING, () -> FrameTest.frameOf(Check.with(noon(), 58, 2)).favourite());
        RadioClock x = Check.atSecondZero();
        int[] minutes = {500, 300, 400, 7000, 0};
        int[] due = {500, 300, 301, 302, 0};
        for (int i = 0; i < minutes.length; i++) {
            Check.minute(x, Check.bits(x, minutes[i], false), 0);
            Check.that("of " + (i + 1), x.favourite(), due[i]);
        }
        Check.that("whatever the quorum is", x.count(2), -1);
        RadioClock y = Check.behind(5, 9000, 2);
        Check.minute(y, Check.bits(y, 100, false), 0);
        Check.that("2 votes against 1", y.favourite(), 9002);
        Check.minute(y, Check.bits(y, 101, false), 0);
        Check.that("2 votes against 2", y.favourite(), 101);
    }

    private static void dissenters() {
        Check.sentence("NoSuchElementException if no time can be assembled");
        Check.fails("no frames", Check.MISSING, () -> new RadioClock().dissenting());
        Check.fails("one frame", Check.MISSING, () -> FrameTest.frameOf(noon()).dissenting());
        RadioClock x = doubtful(2, "", "");
        Check.that("none dissents", x.dissenting(), 0);
        x.set(1, 3);
        Check.fails("by the quorum as it is now", Check.MISSING, x::dissenting);
        Check.sentence("the frames that tell a number and vote for another minute");
        RadioClock y = doubtful(2, "21", "29", "36", "", "");
        Check.minute(y, Check.with(Check.bits(y, NOON + 900, false), 20, 2), 0);
        Check.minute(y, Check.with(Check.bits(y, NOON + 900, false), 20, 0), 0);
        Check.that("assembled", y.assembled(), NOON + 6);
        Check.that("frames that tell nothing do not dissent", y.dissenting(), 0);
        y.set(3, 1);
        Check.that("by mend as it is now", y.dissenting(), 1);
    }

    private static void weakestBits() {
        Check.sentence("the most frames in which one and the same bit is doubtful (of the seconds 0 and 19 to 58)");
        Check.that("no frames", new RadioClock().weakest(), 0);
        Check.that("no doubtful bit", FrameTest.frameOf(noon()).weakest(), 0);
        for (int second = 0; second <= 58; second++) {
            int due = second == 0 || second >= 19 ? 1 : 0;
            Check.that("second " + second, FrameTest.frameOf(Check.with(noon(), second, 2)).weakest(), due);
        }
        Check.that("different bits", doubtful(3, "19", "20", "58", "35").weakest(), 1);
        Check.that("one and the same bit", doubtful(3, "19 20", "20 58", "58 20", "35").weakest(), 3);
        Check.that("in all of eight", doubtful(3, "58", "58", "58", "58", "58", "58", "58", "58").weakest(), 8);
    }
}
