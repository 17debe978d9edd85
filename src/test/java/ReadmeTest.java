/** The examples of README.md, with the answers that it tells. */
public final class ReadmeTest {
    public static void main(String[] args) {
        RadioClock x = new RadioClock();
        hearing(x);
        texts(x);
        Check.end("ReadmeTest");
    }

    private static void hearing(RadioClock x) {
        x.set(1, 2);
        for (int minute = 45; minute <= 48; minute++) {
            x.hear(x.number(2026, 11, 16, 12, minute), false, 0L);
        }
        Check.that("the told minute", x.count(2), 14135807);
        Check.that("the time of the fix", x.fix(0, 1), 180000);
        Check.that("the clock", x.clock(200000), 848148500000L);
        Check.that("changes that can be undone", x.undo(), 4);
        Check.that("the told minute is gone", x.count(2), RadioClock.NONE);
    }

    private static void texts(RadioClock x) {
        x.append(0x71756F72, 0x756D2032, 0x3B206865, 0x61722035, 0x3B202020);
        Check.that("frames", x.load(17), 0);
        Check.that("the quorum", x.count(7), 2);
        Check.that("the last mark", x.count(11), 58000);
        x.append(0x71756F72, 0x756D2039, 0x3B202020, 0x20202020, 0x20202020);
        Check.that("a quorum of 9", x.load(9), RadioClock.VALUE_ERROR);
        Check.that("where it stands", x.errorPosition(), 7);
        Check.that("the receiver stays", x.count(11), 58000);
    }
}
