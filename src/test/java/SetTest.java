/** Promise 24: settings. */
public final class SetTest {
    private static final int[] FIRST = {100, 3, 5, 0, 0};
    private static final int[] LEAST = {10, 2, 3, 0, -500};
    private static final int[] GREATEST = {200, 5, 8, 3, 500};

    public static void main(String[] args) {
        ranges();
        wrongSettings();
        smallerWindow();
        Check.end("SetTest");
    }

    private static void ranges() {
        RadioClock x = new RadioClock();
        for (int what = 0; what < 5; what++) {
            int previous = FIRST[what];
            for (int value = LEAST[what]; value <= GREATEST[what]; value++) {
                Check.that("set(" + what + ", " + value + ")", x.set(what, value), previous);
                Check.that("then", x.count(6 + what), value);
                previous = value;
            }
            Check.that("the same again", x.set(what, previous), previous);
        }
        for (int what = 0; what < 5; what++) {
            Check.that("each has its own value", x.count(6 + what), GREATEST[what]);
        }
    }

    private static void wrongSettings() {
        RadioClock x = new RadioClock();
        for (int what = 0; what < 5; what++) {
            int asked = what;
            for (int value : new int[] {LEAST[what] - 1, GREATEST[what] + 1, Integer.MIN_VALUE, Integer.MAX_VALUE}) {
                Check.fails("set(" + what + ", " + value + ")", Check.ARGUMENT, () -> x.set(asked, value));
            }
        }
        for (int what : new int[] {-1, 5, 6, Integer.MIN_VALUE, Integer.MAX_VALUE}) {
            Check.fails("set(" + what + ", 0)", Check.ARGUMENT, () -> x.set(what, 0));
            Check.fails("set(" + what + ", 3)", Check.ARGUMENT, () -> x.set(what, 3));
        }
        Check.that("nothing changed", Check.state(x), Check.state(new RadioClock()));
        Check.fails("no change", Check.STATE, x::undo);
    }

    private static void smallerWindow() {
        RadioClock x = Check.atSecondZero();
        x.set(2, 8);
        for (int minute = 100; minute < 108; minute++) {
            Check.minute(x, Check.bits(x, minute, false), 0);
        }
        Check.that("frames", x.count(1), 8);
        Check.that("set the window", x.set(2, 4), 8);
        Check.that("the oldest ones are forgotten", x.count(1), 4);
        Check.that("the latest one stays", x.frame(0, 2), 107);
        Check.that("the oldest one", x.frame(3, 2), 104);
        Check.fails("no older one", Check.INDEX, () -> x.frame(4, 2));
        Check.that("votes", x.votes(107), 4);
        Check.that("the told minute stays", x.count(2), 107);
        Check.that("its voters stay", x.count(3), 8);
        x.set(2, 8);
        Check.that("forgotten is forgotten", x.count(1), 4);
        Check.minute(x, Check.bits(x, 108, false), 0);
        Check.that("one more", x.count(1), 5);
        Check.that("voters when the next minute ends", x.count(3), 5);
        x.set(2, 3);
        x.set(1, 4);
        Check.minute(x, Check.bits(x, 109, false), 0);
        Check.that("too few for the quorum", x.count(2), -1);
        Check.that("no voters", x.count(3), 0);
        x.set(2, 3);
        Check.that("as many as before", x.count(1), 3);
    }
}
