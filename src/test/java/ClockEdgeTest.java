/**
 * The boundary cases of the sections 5 and 6 and of the promises 21 to 25: a test for each sentence of
 * the document that names one.
 */
public final class ClockEdgeTest {
    private static final int NOON = 14135805;
    private static final int LAST = 52595999;
    private static final int END = 2000000000;
    private static final int[] LEAST = {10, 2, 3, 0, -500};
    private static final int[] GREATEST = {200, 5, 8, 3, 500};

    public static void main(String[] args) {
        lastMinuteOfAnHour();
        atLeastHalf();
        onlyThoseThatVote();
        mendedFrames();
        withoutAToldMinute();
        withoutAFrame();
        numbersStay();
        timesOfTheClock();
        noFixByThen();
        driftRoundedTowardsZero();
        latestFixCounts();
        estimateOfTwo();
        estimateRoundedTowardsZero();
        meanOfTheOthers();
        settingsInTheirRanges();
        smallerWindow();
        disciplineInItsRange();
        Check.end("ClockEdgeTest");
    }

    /** The length of the minute behind frames that end with a minute, and announce a leap second or not. */
    private static int length(int quorum, int last, String announced) {
        RadioClock x = Check.atSecondZero();
        x.set(1, quorum);
        x.set(2, 8);
        for (int i = 0; i < announced.length(); i++) {
            Check.minute(x, Check.bits(x, last - announced.length() + 1 + i, announced.charAt(i) == '1'), 0);
        }
        return x.count(4);
    }

    private static void lastMinuteOfAnHour() {
        Check.sentence("its length is 61 if there is a told minute m, m + 1 is the last minute of an hour");
        for (int m = 2; m < 182; m++) {
            Check.that("behind the minute " + m, length(3, m, "111"), m % 60 == 58 ? 61 : 60);
        }
        Check.that("at the end of a day", length(3, 1438, "111"), 61);
        Check.that("at the end of all days", length(3, LAST - 1, "111"), 61);
        Check.that("behind the last minute", length(3, LAST, "111"), 60);
    }

    private static void atLeastHalf() {
        Check.sentence("of the frames that vote for m at least half have the bit 19 with the value 1; otherwise its length is 60");
        for (int frames = 2; frames <= 8; frames++) {
            for (int ones = 0; ones <= frames; ones++) {
                int due = 2 * ones >= frames ? 61 : 60;
                String announced = "1".repeat(ones) + "0".repeat(frames - ones);
                Check.that(ones + " of " + frames, length(2, 778, announced), due);
                Check.that(ones + " of " + frames + ", the latest ones", length(2, 778, "0".repeat(frames - ones) + "1".repeat(ones)), due);
            }
        }
    }

    private static void onlyThoseThatVote() {
        Check.sentence("of the frames that vote for m: others have no say");
        RadioClock x = Check.atSecondZero();
        x.set(1, 2);
        x.set(2, 8);
        Check.minute(x, Check.bits(x, 5000, true), 0);
        Check.minute(x, Check.with(Check.bits(x, 774, true), 58, 2), 0);
        Check.minute(x, Check.with(Check.bits(x, 775, true), 20, 0), 0);
        Check.minute(x, Check.bits(x, 776, true), 0);
        Check.minute(x, Check.bits(x, 777, false), 0);
        Check.minute(x, Check.bits(x, 778, false), 0);
        Check.that("voters", x.count(3), 3);
        Check.that("1 of 3 announces it", x.count(4), 60);
        RadioClock y = Check.atSecondZero();
        y.set(1, 2);
        Check.minute(y, Check.bits(y, 5000, false), 0);
        Check.minute(y, Check.with(Check.bits(y, 776, false), 58, 2), 0);
        Check.minute(y, Check.bits(y, 777, true), 0);
        Check.minute(y, Check.bits(y, 778, false), 0);
        Check.that("1 of 2 announces it", y.count(4), 61);
    }

    private static void mendedFrames() {
        Check.sentence("(for a mended frame, by the way in which it was mended)");
        for (int mend = 0; mend <= 3; mend++) {
            RadioClock x = Check.atSecondZero();
            x.set(1, 2);
            x.set(3, mend);
            Check.minute(x, Check.with(Check.with(Check.bits(x, 775, true), 40, 2), 20, 2), 0);
            Check.minute(x, Check.with(Check.with(Check.bits(x, 776, true), 29, 2), 58, 2), 0);
            Check.minute(x, Check.bits(x, 777, false), 0);
            Check.minute(x, Check.bits(x, 778, false), 0);
            Check.that("length with mend " + mend, x.count(4), mend >= 2 ? 61 : 60);
            Check.that("voters with mend " + mend, x.count(3), mend >= 2 ? 4 : 2);
        }
        // With a doubtful bit 19 there is no one way to mend.
        RadioClock y = Check.atSecondZero();
        y.set(1, 2);
        y.set(3, 3);
        Check.minute(y, Check.with(Check.bits(y, 776, true), 19, 2), 0);
        Check.minute(y, Check.bits(y, 777, true), 0);
        Check.minute(y, Check.bits(y, 778, false), 0);
        Check.that("voters", y.count(3), 2);
        Check.that("1 of 2", y.count(4), 61);
    }

    private static void withoutAToldMinute() {
        Check.sentence("if there is a told minute m; otherwise its length is 60");
        Check.that("2 votes, quorum 3", length(3, 778, "11"), 60);
        Check.that("3 votes, quorum 3", length(3, 778, "111"), 61);
        RadioClock x = Check.atSecondZero();
        x.set(1, 2);
        x.set(2, 8);
        Check.minute(x, Check.bits(x, 7775, true), 0);
        Check.minute(x, Check.bits(x, 7776, true), 0);
        Check.minute(x, Check.bits(x, 777, true), 0);
        Check.minute(x, Check.bits(x, 778, true), 0);
        Check.that("2 votes against 2", x.count(2), -1);
        Check.that("so no leap second", x.count(4), 60);
    }

    private static void withoutAFrame() {
        Check.sentence("(A minute that begins without a frame ahead of it has the length 60.)");
        Check.that("at first", Check.atSecondZero().count(4), 60);
        for (int way = 0; way < 3; way++) {
            RadioClock x = Check.inLeapMinute(0);
            Check.that("a leap second", x.count(4), 61);
            int mark = 122000;
            if (way == 0) {
                x.forget();
            } else if (way == 1) {
                mark = 132500;
                x.pulse(mark, 100);
            } else {
                for (int second = 10; second <= 60; second += 10) {
                    mark = 122000 + 1000 * second;
                    x.pulse(mark, 100);
                }
            }
            Check.that("no minute, way " + way, x.count(4), 0);
            Check.that("a minute begins, way " + way, x.pulse(mark + 2000, 100), 3);
            Check.that("its length, way " + way, x.count(4), 60);
        }
    }

    private static void numbersStay() {
        Check.sentence("leap seconds do not change these numbers");
        RadioClock x = Check.inLeapMinute(0);
        Check.minute(x, Check.bits(x, 59, false), 0);
        Check.that("the minute of the fix", x.fix(0, 0), 60);
        Check.that("that of the one before", x.fix(1, 0), 59);
        Check.that("61 seconds lie between them", x.fix(0, 1) - x.fix(1, 1), 61000);
        Check.that("told", x.count(2), 59);
        Check.that("the next one has the usual length", x.count(4), 60);
    }

    private static void timesOfTheClock() {
        Check.sentence("clock: time: 0 to 2000000000; IllegalArgumentException if time is out of range");
        RadioClock x = Check.behind(3, NOON, 3);
        long start = 60000L * (NOON + 3);
        Check.that("the greatest", x.clock(END), start + END - 182000);
        for (int time : new int[] {-1, END + 1, Integer.MIN_VALUE, Integer.MAX_VALUE}) {
            Check.fails("clock(" + time + ")", Check.ARGUMENT, () -> x.clock(time));
            Check.fails("without a fix too, clock(" + time + ")", Check.ARGUMENT, () -> new RadioClock().clock(time));
        }
    }

    private static void noFixByThen() {
        Check.sentence("NoSuchElementException if there is no fix, or the latest one is later");
        for (int time : new int[] {0, 1, 182000, END}) {
            Check.fails("no fix, clock(" + time + ")", Check.MISSING, () -> new RadioClock().clock(time));
        }
        RadioClock x = Check.behind(3, NOON, 3);
        Check.that("at its time", x.clock(182000), 60000L * (NOON + 3));
        Check.that("one later", x.clock(182001), 60000L * (NOON + 3) + 1);
        Check.fails("one earlier", Check.MISSING, () -> x.clock(181999));
        Check.fails("much earlier", Check.MISSING, () -> x.clock(0));
        Check.minute(x, Check.bits(x, NOON + 3, false), 0);
        Check.fails("an older fix does not help", Check.MISSING, () -> x.clock(241999));
        Check.that("at the time of the latest one", x.clock(242000), 60000L * (NOON + 4));
    }

    private static void driftRoundedTowardsZero() {
        Check.sentence("60000 * the minute of the fix + e + e * drift / 1000000 (rounded towards 0)");
        RadioClock x = Check.behind(3, NOON, 3);
        long start = 60000L * (NOON + 3);
        int greatest = END - 182000;
        int[][] rows = {{0, 500, 0}, {1, 500, 0}, {1999, 500, 0}, {2000, 500, 1}, {2001, 500, 1}, {3999, 500, 1}, {4000, 500, 2},
            {1999, -500, 0}, {2000, -500, -1}, {2001, -500, -1}, {3999, -500, -1}, {4000, -500, -2}, {0, -500, 0},
            {999999, 1, 0}, {1000000, 1, 1}, {1999999, 1, 1}, {999999, -1, 0}, {1000000, -1, -1}, {1999999, -1, -1},
            {greatest, 500, 999909}, {greatest, -500, -999909}, {greatest, 0, 0}};
        for (int[] row : rows) {
            x.set(4, row[1]);
            Check.that(row[0] + " behind the fix, drift " + row[1], x.clock(182000 + row[0]), start + row[0] + row[2]);
        }
    }

    private static void latestFixCounts() {
        Check.sentence("for a time t of the receiver that is not earlier than that of the latest fix");
        RadioClock x = Check.behind(2, LAST - 1, 2);
        Check.that("behind the last minute", x.clock(122000), 60000L * (LAST + 1));
        RadioClock y = Check.behind(2, NOON, 2);
        y.set(2, 3);
        Check.minute(y, Check.bits(y, 10, false), 0);
        Check.minute(y, Check.bits(y, 11, false), 0);
        Check.that("the latest fix, though its minute is less", y.clock(242000), 60000L * 12);
        y.forget();
        Check.that("forget leaves it", y.clock(242001), 60000L * 12 + 1);
        RadioClock z = Check.behind(2, 0, 2);
        Check.that("the first minutes", z.clock(122000), 120000L);
    }

    private static void estimateOfTwo() {
        Check.sentence("NoSuchElementException if there are fewer than two fixes");
        for (int fixes = 0; fixes <= 2; fixes++) {
            RadioClock x = Check.behind(3, NOON, 2 + fixes);
            Check.that("fixes", x.count(5), fixes);
            if (fixes < 2) {
                Check.fails("estimate of " + fixes, Check.MISSING, x::estimate);
                Check.fails("deviation of " + fixes, Check.MISSING, x::deviation);
                Check.fails("discipline by " + fixes, Check.MISSING, x::discipline);
            } else {
                Check.that("estimate of 2", x.estimate(), 0L);
                Check.that("deviation of 2", x.deviation(), 0f);
                Check.that("discipline by 2", x.discipline(), 0);
            }
        }
        Check.sentence("The estimate of the drift is, with the latest two fixes");
        RadioClock y = Check.behind(2, NOON, 1);
        for (int i = 1; i <= 10; i++) {
            FixTest.minute(y, Check.bits(y, NOON + i, false), 3 * i - 15);
            if (i > 1) {
                Check.that("by the latest two of " + i, y.estimate(), (15 - 3 * i) * 1000000L / (60000 + 3 * i - 15));
            }
        }
    }

    private static void estimateRoundedTowardsZero() {
        Check.sentence("(w - e) * 1000000 / e (rounded towards 0)");
        int[] more = {1, -1, 2, -2, 7, -7, 59, -59, 100, -100};
        long[] due = {-16, 16, -33, 33, -116, 116, -982, 984, -1663, 1669};
        for (int i = 0; i < more.length; i++) {
            RadioClock x = Check.behind(2, NOON, 2);
            FixTest.minute(x, Check.bits(x, NOON + 2, false), more[i]);
            Check.that("a minute of 60000 and " + more[i], x.estimate(), due[i]);
        }
        RadioClock y = Check.behind(2, LAST - 1, 2);
        y.set(2, 3);
        Check.minute(y, Check.bits(y, 0, false), 0);
        Check.minute(y, Check.bits(y, 1, false), 0);
        Check.minute(y, Check.bits(y, 2, false), 0);
        Check.that("minutes", y.fix(1, 0), 2);
        Check.that("the latest two agree", y.estimate(), 0L);
        RadioClock z = Check.behind(2, LAST - 1, 2);
        z.set(2, 3);
        Check.minute(z, Check.with(Check.bits(z, 0, false), 20, 2), 0);
        Check.minute(z, Check.bits(z, 1, false), 0);
        Check.minute(z, Check.bits(z, 2, false), 0);
        Check.that("the greatest way back", z.fix(0, 0) - z.fix(1, 0), 3 - LAST - 2);
        Check.that("its estimate", z.estimate(), -(60000L * (LAST - 1) + 120000) * 1000000 / 120000);
    }

    private static void meanOfTheOthers() {
        Check.sentence("for each other fix, the absolute value; their sum as a float is divided by their number as a float");
        RadioClock x = Check.behind(2, NOON, 1);
        FixTest.minute(x, Check.bits(x, NOON + 1, false), 0);
        int[] more = {30, -50, 0, 7, 100, -100, 1, -1, 33};
        float[] due = {30f, (50f + 20f) / 2f, (0f + 50f + 20f) / 3f, (7f + 7f + 43f + 13f) / 4f,
            (100f + 107f + 107f + 57f + 87f) / 5f, (100f + 0f + 7f + 7f + 43f + 13f) / 6f,
            (1f + 99f + 1f + 8f + 8f + 42f + 12f) / 7f};
        for (int i = 0; i < due.length; i++) {
            FixTest.minute(x, Check.bits(x, NOON + 2 + i, false), more[i]);
            Check.that("deviation of " + (i + 2) + " fixes", x.deviation(), due[i]);
        }
        FixTest.minute(x, Check.bits(x, NOON + 9, false), more[7]);
        Check.that("of the kept ones alone", x.deviation(), (1f + 0f + 100f + 0f + 7f + 7f + 43f) / 7f);
        // A sum that no float holds to the last digit: it is rounded but once.
        RadioClock y = Check.behind(2, LAST - 3, 4);
        y.set(2, 3);
        Check.minute(y, Check.bits(y, 0, false), 0);
        Check.minute(y, Check.bits(y, 1, false), 0);
        FixTest.minute(y, Check.bits(y, 2, false), 1);
        int kept = y.count(5);
        long sum = 0;
        for (int k = 1; k < kept; k++) {
            sum += Math.abs(60000L * (y.fix(0, 0) - y.fix(k, 0)) - (y.fix(0, 1) - y.fix(k, 1)));
        }
        Check.that("a great sum", sum > 1L << 40, true);
        Check.that("its mean", y.deviation(), (float) sum / (float) (kept - 1));
    }

    private static void settingsInTheirRanges() {
        Check.sentence("Returns the previous value. IllegalArgumentException if what or value is out of range");
        for (int what = 0; what < 5; what++) {
            RadioClock x = new RadioClock();
            int asked = what;
            int first = x.count(6 + what);
            for (int wrong : new int[] {LEAST[what] - 1, GREATEST[what] + 1, Integer.MIN_VALUE, Integer.MAX_VALUE}) {
                Check.fails("set(" + what + ", " + wrong + ")", Check.ARGUMENT, () -> x.set(asked, wrong));
            }
            Check.that("nothing changed", x.count(6 + what), first);
            Check.that("the least value", x.set(what, LEAST[what]), first);
            Check.that("the greatest value", x.set(what, GREATEST[what]), LEAST[what]);
            Check.that("the same again", x.set(what, GREATEST[what]), GREATEST[what]);
            Check.that("it is kept", x.count(6 + what), GREATEST[what]);
            for (int other = 0; other < 5; other++) {
                int due = other == what ? GREATEST[what] : new RadioClock().count(6 + other);
                Check.that("setting " + other, x.count(6 + other), due);
            }
        }
        RadioClock y = new RadioClock();
        for (int what : new int[] {-1, 5, Integer.MIN_VALUE, Integer.MAX_VALUE}) {
            for (int value : new int[] {0, 3, 10, 100}) {
                Check.fails("set(" + what + ", " + value + ")", Check.ARGUMENT, () -> y.set(what, value));
            }
        }
    }

    private static void smallerWindow() {
        Check.sentence("the oldest frames are forgotten at once (the told minute stays until the next minute ends)");
        for (int window = 3; window <= 8; window++) {
            RadioClock x = Check.atSecondZero();
            x.set(2, 8);
            for (int i = 0; i < 8; i++) {
                Check.minute(x, Check.bits(x, NOON + i, false), 0);
            }
            x.set(1, 5);
            x.set(2, window);
            int kept = window;
            Check.that("frames", x.count(1), window);
            Check.that("the latest one", x.frame(0, 2), NOON + 7);
            Check.that("the oldest one", x.frame(window - 1, 2), NOON + 8 - window);
            Check.fails("no older one", Check.INDEX, () -> x.frame(kept, 2));
            Check.that("told", x.count(2), NOON + 7);
            Check.that("voters", x.count(3), 8);
            Check.that("fixes", x.count(5), 6);
            x.set(2, 8);
            Check.that("a greater window brings none back", x.count(1), window);
            x.set(2, window);
            Check.minute(x, Check.bits(x, NOON + 8, false), 0);
            Check.that("when the next minute ends", x.count(2), window >= 5 ? NOON + 8 : -1);
            Check.that("its voters", x.count(3), window >= 5 ? window : 0);
        }
        RadioClock y = Check.behind(2, NOON, 2);
        Check.that("fewer frames than the window", y.set(2, 3), 5);
        Check.that("none is forgotten", y.count(1), 2);
        Check.load(y, "hear 1;hear 2;hear 3;hear 4;hear 5;hear 6;window 3;");
        Check.that("in a text too", y.count(1), 3);
        Check.that("the told minute stays there too", y.count(2), 5);
        Check.that("and its voters", y.count(3), 4);
    }

    private static void disciplineInItsRange() {
        Check.sentence("Returns the previous drift. IllegalStateException if the estimate is out of the range of the drift");
        int[] more = {420, 421, 422, -418, -420, -421};
        long[] estimates = {-499, -500, -502, 497, 500, 501};
        for (int i = 0; i < more.length; i++) {
            RadioClock x = FixTest.farApart(more[i]);
            x.set(4, 77);
            Check.that("the estimate", x.estimate(), estimates[i]);
            if (estimates[i] < -500 || estimates[i] > 500) {
                String before = Check.state(x);
                Check.fails("discipline by " + estimates[i], Check.STATE, x::discipline);
                Check.that("nothing changed", Check.state(x), before);
                x.undo();
                Check.that("it was no change", x.count(10), 0);
            } else {
                Check.that("discipline by " + estimates[i], x.discipline(), 77);
                Check.that("the drift", x.count(10), (int) estimates[i]);
                Check.that("once more", x.discipline(), (int) estimates[i]);
                x.undo();
                x.undo();
                Check.that("it was a change", x.count(10), 77);
            }
        }
    }
}
