/** Promises 16 to 18: blocks, the assembled minute and dissenting frames. */
public final class AssembleTest {
    private static final int NOON = 14135805;
    private static final int DAY = NOON / 1440;

    public static void main(String[] args) {
        wrongArguments();
        blocks();
        unsoundBlocks();
        assembledFromParts();
        hourChanges();
        quorumOfNow();
        tiesAndWinners();
        dissenting();
        Check.end("AssembleTest");
    }

    private static RadioClock receiver(int quorum) {
        RadioClock x = Check.atSecondZero();
        x.set(1, quorum);
        x.set(2, 8);
        return x;
    }

    private static String spoil(String bits, int block) {
        return Check.with(bits, new int[] {22, 30, 40}[block], 2);
    }

    private static void wrongArguments() {
        RadioClock x = receiver(3);
        Check.fails("no frame", Check.INDEX, () -> x.block(0, 0));
        Check.minute(x, Check.bits(x, NOON, false), 0);
        for (int frame : new int[] {-1, 1, 8, Integer.MIN_VALUE, Integer.MAX_VALUE}) {
            Check.fails("block(" + frame + ", 0)", Check.INDEX, () -> x.block(frame, 0));
            Check.fails("block(" + frame + ", 3)", Check.INDEX, () -> x.block(frame, 3));
        }
        for (int block : new int[] {-1, 3, Integer.MIN_VALUE, Integer.MAX_VALUE}) {
            Check.fails("block(0, " + block + ")", Check.ARGUMENT, () -> x.block(0, block));
        }
    }

    private static void blocks() {
        for (int minute = 0; minute < 52596000; minute += 1299709) {
            RadioClock x = receiver(3);
            Check.minute(x, Check.bits(x, minute, true), 0);
            Check.that("minute of the hour", x.block(0, 0), minute % 60);
            Check.that("hour", x.block(0, 1), minute / 60 % 24);
            Check.that("day", x.block(0, 2), minute / 1440);
        }
        RadioClock x = receiver(3);
        Check.minute(x, Check.bits(x, 52595999, true), 0);
        Check.that("the last day", x.block(0, 2), 36524);
    }

    private static String values(String bits) {
        RadioClock x = new RadioClock();
        x.pulse(0, 100);
        x.pulse(2000, Check.lengthOf(bits.charAt(0) - '0'));
        Check.minute(x, bits, 0);
        return x.block(0, 0) + " " + x.block(0, 1) + " " + x.block(0, 2);
    }

    private static String flip(String bits, int... seconds) {
        String flipped = bits;
        for (int second : seconds) {
            flipped = Check.with(flipped, second, '1' - flipped.charAt(second));
        }
        return flipped;
    }

    private static void unsoundBlocks() {
        String noon = Check.bits(new RadioClock(), NOON, false);
        String sound = "45 12 " + DAY;
        Check.that("all sound", values(noon), sound);
        for (int second = 0; second < 59; second++) {
            String due = second < 21 ? sound : second < 29 ? "-1 12 " + DAY : second < 36 ? "45 -1 " + DAY : "45 12 -1";
            Check.that("doubtful " + second, values(Check.with(noon, second, 2)), due);
            Check.that("flipped " + second, values(flip(noon, second)), due);
        }
        // 45 is 0100 101: by the bits 24 and 22 the last digit is 15; by 26 and 27 the first one is 6.
        Check.that("a digit above 9", values(flip(noon, 22, 24)), "-1 12 " + DAY);
        Check.that("minute 65", values(flip(noon, 26, 28)), "-1 12 " + DAY);
        Check.that("minute 5", values(flip(noon, 27, 28)), "5 12 " + DAY);
        Check.that("hour 32", values(flip(noon, 34, 35)), "45 -1 " + DAY);
        Check.that("hour 10", values(flip(noon, 30, 35)), "45 10 " + DAY);
        Check.that("a digit 10 of the hour", values(flip(noon, 32, 35)), "45 -1 " + DAY);
        Check.that("another weekday", values(flip(noon, 43, 58)), "45 12 -1");
        Check.that("month 10, another weekday", values(flip(noon, 45, 58)), "45 12 -1");
        Check.that("month 15", values(flip(noon, 46, 47, 48, 58)), "45 12 -1");
        Check.that("day 23 has the same weekday", values(flip(noon, 36, 38, 40, 41, 58, 58)), "45 12 " + (DAY + 7));
        Check.that("day 30 has it too", values(flip(noon, 37, 38, 41, 58)), "45 12 " + (DAY + 14));
        Check.that("no bit 20: the blocks stay sound", values(flip(noon, 20)), sound);
        Check.that("bit 0", values(flip(noon, 0)), sound);
    }

    private static void assembledFromParts() {
        RadioClock x = receiver(3);
        Check.that("no frames", x.assembled(), -1);
        Check.fails("nobody dissents from nothing", Check.MISSING, x::dissenting);
        int[][] spoilt = {{0}, {1}, {2}, {0, 1}, {0, 2}, {1, 2}};
        for (int i = 0; i < 6; i++) {
            String bits = Check.bits(x, NOON + i, false);
            for (int block : spoilt[i]) {
                bits = spoil(bits, block);
            }
            Check.minute(x, bits, 0);
            Check.that("assembled behind " + (i + 1) + " frames", x.assembled(), i < 5 ? -1 : NOON + 5);
        }
        Check.that("no frame tells a number", x.votes(NOON + 5), 0);
        Check.that("so nobody dissents", x.dissenting(), 0);
    }

    private static void hourChanges() {
        // 12:57 to 13:02: for the hour and the day, the frames of 13:00 to 13:02 count alone.
        RadioClock x = receiver(3);
        for (int i = 12; i <= 17; i++) {
            Check.minute(x, Check.bits(x, NOON + i, false), 0);
            int assembled = i < 14 ? -1 : i == 14 ? NOON + 14 : i < 17 ? -1 : NOON + 17;
            Check.that("assembled at " + (45 + i), x.assembled(), assembled);
        }
        RadioClock y = receiver(2);
        for (int i = 13; i <= 16; i++) {
            Check.minute(y, Check.bits(y, NOON + i, false), 0);
            Check.that("with the quorum 2 at " + (45 + i), y.assembled(), i == 14 ? NOON + 14 : i == 16 ? NOON + 16 : -1);
        }
        // At midnight the date changes too.
        int midnight = (DAY + 1) * 1440;
        RadioClock z = receiver(2);
        for (int minute = midnight - 3; minute <= midnight + 1; minute++) {
            Check.minute(z, Check.bits(z, minute, false), 0);
        }
        Check.that("behind midnight", z.assembled(), midnight + 1);
        // The frame of the full hour itself belongs to the hour: k is at most v.
        RadioClock w = receiver(2);
        Check.minute(w, Check.bits(w, midnight - 1, false), 0);
        Check.minute(w, Check.bits(w, midnight, false), 0);
        Check.minute(w, spoil(Check.bits(w, midnight + 1, false), 1), 0);
        Check.that("one frame of the hour is spoilt", w.assembled(), -1);
        Check.minute(w, Check.bits(w, midnight + 2, false), 0);
        Check.that("the full hour's frame counts", w.assembled(), midnight + 2);
    }

    private static void quorumOfNow() {
        RadioClock x = receiver(5);
        for (int i = 0; i < 4; i++) {
            Check.minute(x, Check.bits(x, NOON + i, false), 0);
        }
        for (int quorum = 5; quorum >= 2; quorum--) {
            x.set(1, quorum);
            Check.that("assembled with the quorum " + quorum, x.assembled(), quorum == 5 ? -1 : NOON + 3);
        }
        x.set(2, 3);
        Check.that("three frames are left", x.assembled(), NOON + 3);
        x.set(1, 4);
        Check.that("too few for the quorum 4", x.assembled(), -1);
        Check.fails("so nothing to dissent from", Check.MISSING, x::dissenting);
    }

    private static void tiesAndWinners() {
        // Minutes of the hour by 2 and 2 frames: none has more votes.
        RadioClock x = receiver(2);
        for (int minute : new int[] {NOON, NOON + 100, NOON + 2, NOON + 102}) {
            Check.minute(x, Check.bits(x, minute, false), 0);
        }
        Check.that("a tie", x.assembled(), -1);
        Check.minute(x, Check.bits(x, NOON + 4, false), 0);
        Check.that("3 against 2, and the hours too", x.assembled(), NOON + 4);
        Check.that("those two dissent", x.dissenting(), 2);
        // The same minutes of the hour, but hours by 2 and 2.
        RadioClock y = receiver(2);
        for (int minute : new int[] {NOON, NOON + 61, NOON + 2, NOON + 63}) {
            Check.minute(y, Check.bits(y, minute, false), 0);
        }
        Check.that("a tie of the hours", y.assembled(), -1);
        RadioClock z = receiver(2);
        for (int minute : new int[] {NOON, NOON + 1441, NOON + 2, NOON + 1443}) {
            Check.minute(z, Check.bits(z, minute, false), 0);
        }
        Check.that("a tie of the days", z.assembled(), -1);
        Check.minute(z, Check.bits(z, NOON + 1444, false), 0);
        Check.that("3 days against 2", z.assembled(), NOON + 1444);
        Check.that("those two dissent", z.dissenting(), 2);
    }

    private static void dissenting() {
        RadioClock x = receiver(3);
        for (int i = 0; i < 3; i++) {
            Check.minute(x, Check.bits(x, NOON + i, false), 0);
        }
        Check.that("all agree", x.dissenting(), 0);
        Check.minute(x, Check.bits(x, NOON + 7000, false), 0);
        Check.minute(x, Check.with(Check.bits(x, NOON + 4, false), 20, 2), 0);
        Check.minute(x, Check.with(Check.bits(x, NOON + 8000, false), 20, 2), 0);
        Check.that("assembled", x.assembled(), NOON + 5);
        Check.that("one frame dissents", x.dissenting(), 1);
        x.set(3, 1);
        Check.that("with mend, another one does", x.dissenting(), 2);
        Check.minute(x, "0".repeat(59), 0);
        Check.that("a frame that tells nothing does not", x.dissenting(), 2);
    }
}
