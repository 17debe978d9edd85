/** Promises 20 to 23 and 25, and the sections on votes, fixes, leap seconds and the clock. */
public final class FixTest {
    private static final int NOON = 14135805;

    public static void main(String[] args) {
        noFixes();
        oneFix();
        lateBeginning();
        quorums();
        moreThanOthers();
        eightFixes();
        clockAndDrift();
        lastMinuteOfAll();
        estimateAndDiscipline();
        deviation();
        leapSeconds();
        halfOfTheVoters();
        mendedAnnouncement();
        Check.end("FixTest");
    }

    private static void noFixes() {
        RadioClock x = new RadioClock();
        for (int fix : new int[] {-1, 0, 1, 7, 8, Integer.MIN_VALUE, Integer.MAX_VALUE}) {
            Check.fails("fix(" + fix + ", 0)", Check.INDEX, () -> x.fix(fix, 0));
            Check.fails("fix(" + fix + ", 2)", Check.INDEX, () -> x.fix(fix, 2));
        }
        Check.fails("clock without a fix", Check.MISSING, () -> x.clock(0));
        Check.fails("a wrong time first", Check.ARGUMENT, () -> x.clock(-1));
        Check.fails("a wrong time first", Check.ARGUMENT, () -> x.clock(2000000001));
        Check.fails("deviation", Check.MISSING, x::deviation);
        Check.fails("estimate", Check.MISSING, x::estimate);
        Check.fails("discipline", Check.MISSING, x::discipline);
        Check.fails("discipline that fails is no change", Check.STATE, x::undo);
    }

    /** Begins with the first of some minutes; each takes 60000 milliseconds and some more. */
    private static RadioClock hear(int quorum, int first, int count, int more) {
        RadioClock x = Check.atSecondZero();
        x.set(1, quorum);
        for (int i = 0; i < count; i++) {
            minute(x, Check.bits(x, first + i, false), more);
        }
        return x;
    }

    /** Goes on by a minute that takes some milliseconds more than it has seconds, by its last step. */
    static void minute(RadioClock x, String bits, int more) {
        int base = x.count(11) - 1000 * x.count(0);
        for (int second = x.count(0) + 1; second < 59; second++) {
            x.pulse(base + 1000 * second, Check.lengthOf(bits.charAt(second) - '0'));
        }
        x.pulse(base + 1000 * x.count(4) + more, 100);
    }

    private static void oneFix() {
        RadioClock x = hear(3, NOON, 2, 0);
        Check.that("no fix yet", x.count(5), 0);
        Check.that("no told minute yet", x.count(2), -1);
        Check.minute(x, Check.bits(x, NOON + 2, false), 0);
        Check.that("told", x.count(2), NOON + 2);
        Check.that("voters", x.count(3), 3);
        Check.that("one fix", x.count(5), 1);
        Check.that("its minute", x.fix(0, 0), NOON + 3);
        Check.that("its time", x.fix(0, 1), 182000);
        for (int what : new int[] {-1, 2, Integer.MIN_VALUE, Integer.MAX_VALUE}) {
            Check.fails("fix(0, " + what + ")", Check.ARGUMENT, () -> x.fix(0, what));
        }
        Check.fails("no second one", Check.INDEX, () -> x.fix(1, 0));
        Check.fails("deviation", Check.MISSING, x::deviation);
        Check.fails("estimate", Check.MISSING, x::estimate);
        Check.fails("discipline", Check.MISSING, x::discipline);
    }

    private static void lateBeginning() {
        RadioClock x = hear(3, NOON, 2, 0);
        int base = x.count(11);
        String bits = Check.bits(x, NOON + 2, false);
        for (int second = 1; second < 59; second++) {
            x.pulse(base + 1000 * second, Check.lengthOf(bits.charAt(second) - '0'));
        }
        x.pulse(base + 67050, 100);
        Check.that("position", x.count(0), 7);
        Check.that("the time of the fix", x.fix(0, 1), base + 60050);
        Check.that("its minute", x.fix(0, 0), NOON + 3);
        Check.that("the clock", x.clock(base + 60050), 60000L * (NOON + 3));
        Check.fails("a time ahead of it", Check.MISSING, () -> x.clock(base + 60049));
    }

    private static void quorums() {
        for (int quorum = 2; quorum <= 5; quorum++) {
            RadioClock x = Check.atSecondZero();
            x.set(1, quorum);
            for (int i = 0; i < 6; i++) {
                Check.minute(x, Check.bits(x, NOON + i, false), 0);
                boolean told = i + 1 >= quorum;
                Check.that("told with the quorum " + quorum, x.count(2), told ? NOON + i : -1);
                Check.that("voters", x.count(3), told ? Math.min(5, i + 1) : 0);
                Check.that("fixes", x.count(5), told ? i + 2 - quorum : 0);
            }
        }
        RadioClock x = hear(5, NOON, 4, 0);
        x.set(1, 2);
        Check.that("the quorum counts when the next minute ends", x.count(2), -1);
        Check.minute(x, "0".repeat(59), 0);
        Check.that("then it does", x.count(2), NOON + 4);
        Check.that("voters", x.count(3), 4);
    }

    private static void moreThanOthers() {
        RadioClock x = hear(2, NOON, 2, 0);
        Check.that("told", x.count(2), NOON + 1);
        Check.minute(x, Check.bits(x, 5002, false), 0);
        Check.that("2 against 1", x.count(2), NOON + 2);
        Check.minute(x, Check.bits(x, 5003, false), 0);
        Check.that("2 against 2", x.count(2), -1);
        Check.that("no voters", x.count(3), 0);
        Check.that("no fix is made", x.count(5), 2);
        Check.minute(x, Check.bits(x, 5004, false), 0);
        Check.that("3 against 2", x.count(2), 5004);
        Check.that("voters", x.count(3), 3);
        Check.that("a fix", x.count(5), 3);
        Check.minute(x, Check.bits(x, 5005, false), 0);
        Check.that("the oldest frame is forgotten", x.votes(NOON + 5), 1);
    }

    private static void eightFixes() {
        RadioClock x = hear(2, NOON, 12, 3);
        Check.that("fixes", x.count(5), 8);
        for (int k = 0; k < 8; k++) {
            Check.that("minute of fix " + k, x.fix(k, 0), NOON + 12 - k);
            Check.that("time of fix " + k, x.fix(k, 1), 2000 + 60003 * (12 - k));
        }
        Check.fails("no ninth one", Check.INDEX, () -> x.fix(8, 0));
        Check.fails("no fix -1", Check.INDEX, () -> x.fix(-1, 1));
        x.forget();
        Check.that("forget leaves them", x.count(5), 8);
    }

    private static void clockAndDrift() {
        RadioClock x = hear(3, NOON, 3, 0);
        long start = 60000L * (NOON + 3);
        int time = x.fix(0, 1);
        int[] drifts = {0, 500, -500, 1, -1, 333, -333};
        int[] elapsed = {0, 1, 1999, 2000, 2001, 5999, 999999, 1000000, 2000000000 - time};
        for (int drift : drifts) {
            x.set(4, drift);
            for (int e : elapsed) {
                // The rounding towards 0 of the drift's part alone.
                long part = (long) e * Math.abs(drift) / 1000000 * Integer.signum(drift);
                Check.that("clock after " + e + " with the drift " + drift, x.clock(time + e), start + e + part);
            }
        }
        Check.fails("too early", Check.MISSING, () -> x.clock(time - 1));
        Check.fails("too early", Check.MISSING, () -> x.clock(0));
        for (int wrong : new int[] {-1, 2000000001, Integer.MIN_VALUE, Integer.MAX_VALUE}) {
            Check.fails("clock(" + wrong + ")", Check.ARGUMENT, () -> x.clock(wrong));
        }
    }

    private static void lastMinuteOfAll() {
        RadioClock x = hear(2, 52595998, 2, 0);
        Check.that("told", x.count(2), 52595999);
        Check.that("the fix's minute", x.fix(0, 0), 52596000);
        Check.minute(x, Check.bits(x, 0, false), 0);
        Check.that("told behind the last one", x.count(2), 52596000);
        Check.that("the fix's minute", x.fix(0, 0), 52596001);
        Check.that("the clock", x.clock(x.fix(0, 1)), 60000L * 52596001);
    }

    private static void estimateAndDiscipline() {
        int[] more = {0, 3, -3, 30, 31, -29, -30, -31, 100, -100};
        for (int off : more) {
            RadioClock x = hear(3, NOON, 4, off);
            long due = -off * 1000000L / (60000 + off);
            Check.that("estimate of " + off, x.estimate(), due);
            x.set(4, 7);
            if (due < -500 || due > 500) {
                String before = Check.state(x);
                Check.fails("discipline by " + due, Check.STATE, x::discipline);
                Check.that("the drift stays", Check.state(x), before);
                x.undo();
                Check.that("that was no change", x.count(10), 0);
            } else {
                Check.that("discipline", x.discipline(), 7);
                Check.that("the drift", (long) x.count(10), due);
                x.undo();
                Check.that("that was a change", x.count(10), 7);
            }
        }
        int[] sums = {419, 420, 421, 422, -419, -420, -421, -422};
        long[] estimates = {-498, -499, -500, -502, 499, 500, 501, 502};
        for (int i = 0; i < sums.length; i++) {
            RadioClock x = farApart(sums[i]);
            Check.that("estimate by " + sums[i], x.estimate(), estimates[i]);
            if (estimates[i] < -500 || estimates[i] > 500) {
                Check.fails("discipline by " + sums[i], Check.STATE, x::discipline);
                Check.that("the drift stays", x.count(10), 0);
            } else {
                Check.that("discipline by " + sums[i], x.discipline(), 0);
                Check.that("the drift then", (long) x.count(10), estimates[i]);
            }
        }
        RadioClock x = hear(3, NOON, 5, 5);
        x.pulse(x.count(11) + 1000, 100);
        Check.that("the latest two fixes count", x.estimate(), -5 * 1000000L / 60005);
        // The second fix by other frames: the difference of the minutes is great, even below 0.
        for (int jump : new int[] {-1000000, 1000000, 50000000 - NOON}) {
            RadioClock y = hear(2, NOON, 2, 0);
            y.set(2, 3);
            for (int i = 2; i < 6; i++) {
                Check.minute(y, Check.bits(y, NOON + jump + i, false), 0);
            }
            // By 2 and 1, 1 and 2, then 0 and 3 frames of the old and the new ones.
            long w = 60000L * (y.fix(0, 0) - y.fix(1, 0));
            long e = y.fix(0, 1) - y.fix(1, 1);
            Check.that("estimate", y.estimate(), (w - e) * 1000000 / e);
            Check.that("fixes", y.count(5), 5);
        }
        RadioClock y = hear(2, NOON, 2, 0);
        y.set(2, 3);
        Check.minute(y, Check.bits(y, 52000002, false), 0);
        Check.minute(y, Check.bits(y, 52000003, false), 0);
        Check.that("a jump", y.fix(0, 0) - y.fix(1, 0), 52000004 - NOON - 3);
        Check.that("its estimate", y.estimate(), 60000L * (52000004 - NOON - 4) * 1000000 / 60000);
        Check.fails("no drift is so large", Check.STATE, y::discipline);
        RadioClock z = hear(2, 52000000, 2, 0);
        z.set(2, 3);
        Check.minute(z, Check.bits(z, 102, false), 0);
        Check.minute(z, Check.bits(z, 103, false), 0);
        Check.that("a jump back", z.estimate(), -(60000L * (52000003 - 104) + 60000) * 1000000 / 60000);
    }

    /** The latest two fixes are 14 minutes apart, which took some milliseconds more than they should. */
    static RadioClock farApart(int more) {
        RadioClock x = Check.atSecondZero();
        x.set(1, 2);
        x.set(2, 3);
        for (int i = 0; i < 17; i++) {
            boolean spoilt = i >= 2 && i < 15;
            int share = more / 14 + (i == 3 ? more % 14 : 0);
            minute(x, Check.with(Check.bits(x, NOON + i, false), 30, spoilt ? 2 : 1), i < 3 ? 0 : share);
        }
        Check.that("fixes", x.count(5), 3);
        Check.that("minutes between the latest two", x.fix(0, 0) - x.fix(1, 0), 14);
        return x;
    }

    private static void deviation() {
        RadioClock x = hear(2, NOON, 3, 40);
        Check.that("of one other fix", x.deviation(), 40f);
        minute(x, Check.bits(x, NOON + 3, false), -50);
        Check.that("of two others", x.deviation(), (50f + 10f) / 2f);
        minute(x, Check.bits(x, NOON + 4, false), 1);
        Check.that("of three others", x.deviation(), (1f + 49f + 9f) / 3f);
        RadioClock y = hear(2, 52000000, 2, 0);
        y.set(2, 3);
        Check.minute(y, Check.bits(y, 102, false), 0);
        Check.minute(y, Check.bits(y, 103, false), 0);
        Check.minute(y, Check.bits(y, 104, false), 7);
        // The sum is a float but once: it is greater than what a float holds to the last digit.
        long sum = 60000L * 1 + 7 - 60000;
        sum += 60000L * (52000003 - 105) + 120007;
        sum += 60000L * (52000002 - 105) + 180007;
        Check.that("fixes", y.count(5), 4);
        Check.that("a great one", y.deviation(), (float) sum / 3f);
        for (int count = 4; count < 14; count++) {
            minute(x, Check.bits(x, NOON + count + 1, false), count * 3 - 20);
            Check.that("as told", x.deviation(), mean(x));
        }
    }

    private static float mean(RadioClock x) {
        long sum = 0;
        for (int k = 1; k < x.count(5); k++) {
            sum += Math.abs(60000L * (x.fix(0, 0) - x.fix(k, 0)) - (x.fix(0, 1) - x.fix(k, 1)));
        }
        return (float) sum / (float) (x.count(5) - 1);
    }

    /** The length of the minute behind some frames that end with a minute, announced or not. */
    private static int lengthBehind(int quorum, int last, boolean... announced) {
        RadioClock x = Check.atSecondZero();
        x.set(1, quorum);
        for (int i = 0; i < announced.length; i++) {
            Check.minute(x, Check.bits(x, last - announced.length + 1 + i, announced[i]), 0);
        }
        return x.count(4);
    }

    private static void leapSeconds() {
        for (int minute = 0; minute < 60; minute++) {
            int due = minute == 58 ? 61 : 60;
            Check.that("length behind the minute " + minute, lengthBehind(2, 720 + minute, true, true, true), due);
            Check.that("not announced", lengthBehind(2, 720 + minute, false, false, false), 60);
        }
        Check.that("no told minute", lengthBehind(3, 778, true, true), 60);
        Check.that("at midnight", lengthBehind(3, 1438, true, true, true), 61);
        Check.that("at the end of all minutes", lengthBehind(3, 52595998, true, true, true), 61);
        RadioClock x = new RadioClock();
        x.pulse(0, 100);
        x.pulse(2000, 100);
        Check.that("without a frame ahead of it", x.count(4), 60);
        RadioClock y = Check.atSecondZero();
        y.set(1, 2);
        Check.minute(y, Check.bits(y, 777, true), 0);
        Check.minute(y, Check.bits(y, 778, true), 0);
        int base = y.count(11);
        Check.minute(y, Check.bits(y, 779, true), 0);
        Check.that("the minute took 61 seconds", y.count(11), base + 61000);
        Check.that("in step", y.count(2), 779);
        Check.that("usual length behind it", y.count(4), 60);
        Check.that("the fix", y.fix(0, 1) - y.fix(1, 1), 61000);
        Check.that("estimate", y.estimate(), -1000L * 1000000 / 61000);
    }

    private static void halfOfTheVoters() {
        Check.that("1 of 2", lengthBehind(2, 778, true, false), 61);
        Check.that("1 of 2", lengthBehind(2, 778, false, true), 61);
        Check.that("1 of 3", lengthBehind(2, 778, false, false, true), 60);
        Check.that("2 of 3", lengthBehind(2, 778, true, false, true), 61);
        Check.that("2 of 4", lengthBehind(2, 778, true, true, false, false), 61);
        Check.that("1 of 4", lengthBehind(2, 778, true, false, false, false), 60);
        Check.that("2 of 5", lengthBehind(2, 778, true, true, false, false, false), 60);
        Check.that("3 of 5", lengthBehind(2, 778, true, true, true, false, false), 61);
        // Frames that vote for another minute, or for none, have no say.
        RadioClock x = Check.atSecondZero();
        x.set(1, 2);
        Check.minute(x, Check.bits(x, 5000, false), 0);
        Check.minute(x, Check.with(Check.bits(x, 776, false), 30, 2), 0);
        Check.minute(x, Check.bits(x, 777, false), 0);
        Check.minute(x, Check.bits(x, 778, true), 0);
        Check.that("1 of 2 that vote for it", x.count(4), 61);
        RadioClock y = Check.atSecondZero();
        y.set(1, 2);
        Check.minute(y, Check.bits(y, 5000, true), 0);
        Check.minute(y, Check.bits(y, 776, false), 0);
        Check.minute(y, Check.bits(y, 777, false), 0);
        Check.minute(y, Check.bits(y, 778, true), 0);
        Check.that("1 of 3 that vote for it", y.count(4), 60);
    }

    private static void mendedAnnouncement() {
        for (int mend = 0; mend <= 1; mend++) {
            RadioClock x = Check.atSecondZero();
            x.set(1, 2);
            x.set(3, mend);
            Check.minute(x, Check.with(Check.bits(x, 775, true), 40, 2), 0);
            Check.minute(x, Check.with(Check.bits(x, 776, true), 20, 2), 0);
            Check.minute(x, Check.bits(x, 777, false), 0);
            Check.minute(x, Check.bits(x, 778, false), 0);
            Check.that("mended frames announce too", x.count(4), mend == 1 ? 61 : 60);
            Check.that("voters", x.count(3), mend == 1 ? 4 : 2);
        }
    }
}
