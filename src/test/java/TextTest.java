/** Promises 2 to 4: the text buffer, reading it, and the position of an error. */
public final class TextTest {
    public static void main(String[] args) {
        appending();
        lengths();
        firstBytesAlone();
        bytesInOrder();
        settings();
        pulses();
        hearing();
        spaces();
        syntaxErrors();
        valueErrors();
        theFirstErrorCounts();
        tooLate();
        longNumbers();
        whatLoadChanges();
        sameAsCalls();
        Check.end("TextTest");
    }

    private static void appending() {
        RadioClock x = new RadioClock();
        for (int i = 1; i <= 30; i++) {
            Check.that("append", x.append(0x20202020, 0x20202020, 0x20202020, 0x20202020, 0x20202020), 20 * i);
        }
        Check.fails("above 600", Check.STATE, () -> x.append(0, 0, 0, 0, 0));
        Check.that("the whole buffer", x.load(600), 0);
        Check.that("no error", x.errorPosition(), -1);
        Check.that("empty then", x.append(0, 0, 0, 0, 0), 20);
        Check.that("a byte 0", x.load(20), -2);
        Check.that("empty behind an error too", x.append(0, 0, 0, 0, 0), 20);
    }

    private static void lengths() {
        RadioClock x = new RadioClock();
        Check.append(x, Check.bytes("mend 2;quorum 4;"));
        for (int length : new int[] {-1, 21, 600, Integer.MIN_VALUE, Integer.MAX_VALUE}) {
            Check.fails("load(" + length + ")", Check.ARGUMENT, () -> x.load(length));
        }
        Check.that("the buffer stays", x.append(0x20202020, 0x20202020, 0x20202020, 0x20202020, 0x20202020), 40);
        Check.that("its first bytes", x.load(7), 0);
        Check.that("mend", x.count(9), 2);
        Check.that("quorum", x.count(7), 3);
        Check.that("nothing", x.load(0), 0);
        Check.that("a new receiver", Check.state(x), Check.state(new RadioClock()));
    }

    /** What stands in the buffer behind the length does not count. */
    private static void firstBytesAlone() {
        String text = "mend 12;drift - 17;hear 5 leap lose 12 lose 34 ;quorum 4;pulse 99000 100;";
        for (int from : new int[] {0, 8, 19, 48}) {
            String tail = text.substring(from);
            for (int length = 0; length <= tail.length(); length++) {
                RadioClock x = new RadioClock();
                Check.append(x, Check.bytes(tail));
                RadioClock y = new RadioClock();
                Check.append(y, Check.bytes(tail.substring(0, length)));
                Check.that("the first " + length + " bytes of " + tail, x.load(length), y.load(length));
                Check.that("error position in the first " + length + " bytes of " + tail, x.errorPosition(), y.errorPosition());
                Check.that("read from them", Check.state(x), Check.state(y));
            }
        }
        RadioClock x = new RadioClock();
        Check.append(x, Check.bytes("mend 12;"));
        Check.that("mend 1 without an end", x.load(6), -2);
        Check.that("at its length", x.errorPosition(), 6);
        Check.append(x, Check.bytes("mend 1;;"));
        Check.that("an end too many behind the length", x.load(7), 0);
        Check.append(x, Check.bytes("mend 1;"));
        Check.that("an end behind the length", x.load(6), -2);
        Check.append(x, Check.bytes("mend 1;"));
        Check.that("a number behind the length", x.load(5), -2);
        Check.that("at its length", x.errorPosition(), 5);
    }

    private static void bytesInOrder() {
        // "window 7;mend 1;    ", four bytes an argument.
        RadioClock x = new RadioClock();
        x.append(0x77696e64, 0x6f772037, 0x3b6d656e, 0x6420313b, 0x20202020);
        Check.that("load", x.load(20), 0);
        Check.that("window", x.count(8), 7);
        Check.that("mend", x.count(9), 1);
    }

    private static void good(String text, int what, int due) {
        RadioClock x = new RadioClock();
        x.set(0, 55);
        Check.that("load of " + text, Check.load(x, text) >= 0, true);
        Check.that("no error in " + text, x.errorPosition(), -1);
        Check.that("count(" + what + ") behind " + text, x.count(what), due);
    }

    private static void settings() {
        good("", 6, 100);
        good("tolerance 10;", 6, 10);
        good("tolerance 200;", 6, 200);
        good("quorum 2;", 7, 2);
        good("quorum 5;", 7, 5);
        good("window 3;", 8, 3);
        good("window 8;", 8, 8);
        good("mend 0;", 9, 0);
        good("mend 3;", 9, 3);
        good("drift 500;", 10, 500);
        good("drift -500;", 10, -500);
        good("drift 0;", 10, 0);
        good("drift -0;", 10, 0);
        good("drift - 17;", 10, -17);
        good("drift-17;", 10, -17);
        good("drift 17;mend 1;drift 18;", 10, 18);
        good("mend3;", 9, 3);
        good("mend 1;mend 2;tolerance 10;", 9, 2);
        good("mend 1; hear 100; mend 0; hear 101;", 9, 0);
        good("hear 100; hear 101; hear 102; hear 103; hear 104; window 3;", 1, 3);
    }

    private static void pulses() {
        good("pulse 0 100;", 11, 0);
        good("pulse 2000000000 9999;", 11, 2000000000);
        good("pulse 5 0;", 13, 1);
        good("pulse 0 100;pulse 2000 200;pulse 3000 300;", 0, 1);
        good("pulse 0 100;pulse 2000 200;pulse 3000 300;", 12, 1);
        good("tolerance 10;pulse 0 100;pulse 2020 200;", 0, -1);
        good("pulse 0 100;tolerance 20;pulse 2020 200;", 0, 0);
    }

    private static void hearing() {
        good("hear 0;", 11, 58000);
        good("hear 52595999;", 11, 58000);
        good("hear 5 lose 58;", 11, 57000);
        good("hear 5 leap lose 58 lose 57 lose 0;", 11, 56000);
        good("hear 5 lose 58 lose 58;", 11, 57000);
        good("hear5lose58;", 11, 57000);
        good("hear 5 lose58lose57;", 11, 56000);
        good("hear 5 lose 0;hear 6 lose 0;", 0, -1);
        RadioClock x = new RadioClock();
        Check.that("frames", Check.load(x, "quorum 2;hear 99;hear 100 leap;hear 101;hear 102;"), 2);
        Check.that("told", x.count(2), 101);
        Check.that("with leap", x.frame(1, 3), 1);
        Check.that("without", x.frame(0, 3), 0);
        Check.that("hear leap, lose", Check.load(x, "hear 99;hear 100 lose 30 lose 31;hear 101;"), 1);
        Check.that("lost bits", x.frame(0, 0), 2);
        Check.that("lost bits", "" + x.frameBit(0, 29) + x.frameBit(0, 30) + x.frameBit(0, 31), "122");
    }

    private static void spaces() {
        good("   mend   3   ;   ", 9, 3);
        good("  ", 9, 0);
        good(" drift  -  5 ; hear  7  leap  lose  5  lose  6  ; ", 10, -5);
        bad("mend\t3;", -2, 4);
        bad("mend 3;\n", -2, 7);
        bad("me nd 3;", -2, 0);
        bad("mend 1 2;", -2, 7);
        bad("pulse 1 0 0;", -2, 10);
    }

    private static void bad(String text, int code, int position) {
        RadioClock x = new RadioClock();
        x.set(3, 2);
        x.hear(7, false, 0);
        String before = Check.state(x);
        Check.that("load of " + text, Check.load(x, text), code);
        Check.that("error position in " + text, x.errorPosition(), position);
        Check.that("the receiver stays", Check.state(x), before);
        Check.that("no change", x.undo(), 1);
    }

    private static void syntaxErrors() {
        bad(";", -2, 0);
        bad("5;", -2, 0);
        bad("-;", -2, 0);
        bad("Mend 1;", -2, 0);
        bad("mendz 1;", -2, 0);
        bad("amend 1;", -2, 0);
        bad("bend 1;", -2, 0);
        bad("zend 1;", -2, 0);
        bad("mends 1;", -2, 0);
        bad("men 1;", -2, 0);
        bad("mendx;", -2, 0);
        bad("tolerancf 50;", -2, 0);
        bad("leap;", -2, 0);
        bad("lose 5;", -2, 0);
        bad("mend;", -2, 4);
        bad("mend", -2, 4);
        bad("mend   ", -2, 7);
        bad("mend 1", -2, 6);
        bad("mend 1  ", -2, 8);
        bad("mend 1,", -2, 6);
        bad("mend -1;", -2, 5);
        bad("mend 1;;", -2, 7);
        bad("mend x;", -2, 5);
        bad("mend 1 mend 2;", -2, 7);
        bad("mend 1a;", -2, 6);
        bad("mend 1;x", -2, 7);
        bad("drift --1;", -2, 7);
        bad("drift -;", -2, 7);
        bad("drift -", -2, 7);
        bad("drift - ", -2, 8);
        bad("drift +1;", -2, 6);
        bad("drift 1-;", -2, 7);
        bad("pulse;", -2, 5);
        bad("pulse 5;", -2, 7);
        bad("pulse 5", -2, 7);
        bad("pulse 5 -1;", -2, 8);
        bad("pulse 5,1;", -2, 7);
        bad("hear;", -2, 4);
        bad("hear leap 5;", -2, 5);
        bad("hear 5 leap leap;", -2, 12);
        bad("hear 5 lose;", -2, 11);
        bad("hear 5 lose 1 leap;", -2, 14);
        bad("hear 5 lose 1 2;", -2, 14);
        bad("hear 5 leaplose 1;", -2, 7);
        bad("hear 5 loser 1;", -2, 7);
        bad("hear 5 los 1;", -2, 7);
        bad("hear 5 leap", -2, 11);
        bad("hear 5 lose 1", -2, 13);
        bad("hear 5 6;", -2, 7);
        bad("hear -5;", -2, 5);
        bad("mend 1;\u0000", -2, 7);
        bad("mend 1;\u00e9", -2, 7);
        bad("m\u00e9nd 1;", -2, 0);
        bad("mend \u00b21;", -2, 5);
        bad("mend 1{;", -2, 6);
        bad("mend 1`;", -2, 6);
        bad("mend 1/;", -2, 6);
        bad("mend 1:;", -2, 6);
    }

    private static void valueErrors() {
        bad("tolerance 9;", -3, 10);
        bad("tolerance 201;", -3, 10);
        bad("quorum 1;", -3, 7);
        bad("quorum 6;", -3, 7);
        bad("window 2;", -3, 7);
        bad("window 9;", -3, 7);
        bad("mend 4;", -3, 5);
        bad("drift 501;", -3, 6);
        bad("drift -501;", -3, 7);
        bad("drift - 501;", -3, 8);
        bad("pulse 2000000001 5;", -3, 6);
        bad("pulse 5 10000;", -3, 8);
        bad("hear 52596000;", -3, 5);
        bad("hear 5 lose 59;", -3, 12);
        bad("hear 5 lose 5 lose 60;", -3, 19);
        bad("hear 5 leap lose 59;", -3, 17);
        bad("pulse 5 100;pulse 5 100;", -3, 18);
        bad("pulse 5 100;pulse 4 100;", -3, 18);
        bad("pulse 5 0;pulse 5 100;", -3, 16);
        bad("hear 7;pulse 58000 100;", -3, 13);
        bad("hear 7 lose 58;pulse 57000 100;", -3, 21);
        bad("pulse 2000000000 100;pulse 2000000000 100;", -3, 27);
        good("pulse 5 100;pulse 6 100;", 13, 1);
        good("hear 7;pulse 58001 100;", 13, 1);
        good("hear 7 lose 58;pulse 57001 100;", 13, 1);
    }

    private static void theFirstErrorCounts() {
        bad("mend 4", -3, 5);
        bad("mend 4 x", -3, 5);
        bad("mend 4a", -3, 5);
        bad("mend 4;x", -3, 5);
        bad("quorum 9 window 1;", -3, 7);
        bad("x mend 4;", -2, 0);
        bad("mend 1 4;", -2, 7);
        bad("mend 1 quorum 99;", -2, 7);
        bad("pulse 2000000001", -3, 6);
        bad("pulse 2000000001 x", -3, 6);
        bad("pulse 5 10000", -3, 8);
        bad("hear 52596000", -3, 5);
        bad("hear 52596000 x", -3, 5);
        bad("hear 5 lose 59", -3, 12);
        bad("drift -501", -3, 7);
        bad("pulse 5 100;pulse 5", -3, 18);
        bad("pulse 5 100;pulse 5x;", -3, 18);
        bad("mend 1;mend 2;mend 3;mend 4;mend 5;", -3, 26);
    }

    private static void tooLate() {
        bad("pulse 1999940001 100;hear 5;", -3, 21);
        bad("pulse 1999940001 100;hear", -3, 21);
        bad("pulse 1999940001 100;hear x", -3, 21);
        bad("pulse 1999940001 100; hear 52596000;", -3, 22);
        bad("pulse 1999940001 100;hears 5;", -2, 21);
        bad("pulse 1999940001 100;hea 5;", -2, 21);
        good("pulse 1999940000 100;hear 5;", 11, 2000000000);
        bad("pulse 1999940000 100;hear 5;hear 5;", -3, 28);
        bad("pulse 1999940000 100;hear 5;pulse 2000000000 5;", -3, 34);
        good("pulse 1999940001 10;hear 5;", 11, -1);
        good("pulse 2000000000 10;hear 5;", 11, -1);
    }

    private static void longNumbers() {
        good("mend 0000000000000000000000000000000000003;", 9, 3);
        good("pulse 000000002000000000 0000100;", 11, 2000000000);
        bad("mend 4294967297;", -3, 5);
        bad("mend 18446744073709551617;", -3, 5);
        bad("mend " + "9".repeat(500) + ";", -3, 5);
        bad("mend 1" + "0".repeat(500) + ";", -3, 5);
        bad("drift -" + "9".repeat(500) + ";", -3, 7);
        bad("hear 4294967296;", -3, 5);
        bad("pulse 4294967296 100;", -3, 6);
        bad("pulse 5 4294967296;", -3, 8);
        bad("hear 5 lose 4294967296;", -3, 12);
        good("mend " + "0".repeat(590) + "3;", 9, 3);
    }

    private static void whatLoadChanges() {
        RadioClock x = new RadioClock();
        x.set(4, 9);
        x.hear(7, false, 0);
        Check.that("load", Check.load(x, "mend 1;"), 0);
        Check.that("nothing is left of the present one", Check.state(x), Check.state(withMend()));
        Check.that("one change", x.undo(), 2);
        Check.that("the drift is back", x.count(10), 9);
        Check.that("an error", Check.load(x, "mend 9;"), -3);
        Check.that("its position", x.errorPosition(), 5);
        Check.fails("a wrong length", Check.ARGUMENT, () -> x.load(1));
        Check.that("the position stays", x.errorPosition(), 5);
        Check.that("another error", Check.load(x, "mend 1;x"), -2);
        Check.that("its position", x.errorPosition(), 7);
        Check.that("no error", Check.load(x, "mend 1;"), 0);
        Check.that("no position", x.errorPosition(), -1);
        // What an earlier text did to its receiver is not left for the next one.
        Check.that("an error late in the text", Check.load(x, "window 8;hear 7;hear 8;hear 9;x"), -2);
        Check.that("load", Check.load(x, "mend 1;"), 0);
        Check.that("a new receiver", Check.state(x), Check.state(withMend()));
    }

    private static RadioClock withMend() {
        RadioClock x = new RadioClock();
        x.set(3, 1);
        return x;
    }

    private static void sameAsCalls() {
        RadioClock x = new RadioClock();
        Check.load(x, "quorum 2;mend 2;window 4;drift -44;tolerance 150;pulse 77 200;hear 776 leap;"
            + "hear 777 leap lose 30 lose 22;hear 778 lose 0;hear 779 leap;hear 780;pulse 303100 100;");
        RadioClock y = new RadioClock();
        y.set(1, 2);
        y.set(3, 2);
        y.set(2, 4);
        y.set(4, -44);
        y.set(0, 150);
        y.pulse(77, 200);
        y.hear(776, true, 0);
        y.hear(777, true, 1L << 30 | 1L << 22);
        y.hear(778, false, 1L);
        y.hear(779, true, 0);
        y.hear(780, false, 0);
        y.pulse(303100, 100);
        Check.that("the same receiver", Check.state(x), Check.state(y));
        Check.that("with frames", x.count(1) > 0, true);
    }
}
