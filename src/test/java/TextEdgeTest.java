/**
 * The boundary cases of the sections 7 and 8 (the texts) and of the promises 2, 3, 4, 10, 27 and 28: a
 * test for each sentence of the document that names one.
 */
public final class TextEdgeTest {
    private static final int NOON = 14135805;
    private static final int LAST = 52595999;
    private static final int END = 2000000000;
    private static final int SPACES = 0x20202020;

    public static void main(String[] args) {
        pulsesThatAreHeard();
        lostSeconds();
        withoutALastMark();
        withoutAPosition();
        behindAPosition();
        notLaterThanThePulseBefore();
        numberOfPulses();
        tooLateToHear();
        minutesToHear();
        sixHundredBytes();
        bytesOfArguments();
        lengthsOfLoad();
        emptyAfterwards();
        framesOfATextAndPresentOnes();
        repetitions();
        partsThatMayBeMissing();
        longestWords();
        longestNumbers();
        spaces();
        inTheirOrder();
        wrongBytes();
        unexpectedEnds();
        rangesOfNumbers();
        timesOfPulses();
        minutesThatCannotBeHeard();
        firstErrors();
        severalErrorsAtOnce();
        positionOfTheError();
        writtenTime();
        writtenBytes();
        Check.end("TextEdgeTest");
    }

    private static void pulsesThatAreHeard() {
        Check.sentence("a pulse for each of the seconds 0 to 58 of a code that is not lost, at the time b + 1000 * second");
        for (int minute : new int[] {0, NOON, LAST}) {
            RadioClock x = Check.behind(3, NOON, 1);
            Check.that("hear " + minute, x.hear(minute, true, 0), 59);
            Check.that("the second 58", x.count(11), 122000 + 58000);
            RadioClock y = Check.behind(3, NOON, 1);
            long code = y.code(minute, true);
            for (int second = 0; second <= 58; second++) {
                y.pulse(122000 + 1000 * second, (code >>> second & 1) == 1 ? 200 : 100);
            }
            Check.that("as by its pulses", Check.state(x), Check.state(y));
        }
    }

    private static void lostSeconds() {
        Check.sentence("lost: bit s for the second s; other bits do not matter");
        for (int second = 0; second < 64; second++) {
            RadioClock x = Check.atPosition(58);
            Check.that("the second " + second + " is lost", x.hear(NOON, false, 1L << second), second <= 58 ? 58 : 59);
            Check.that("the last mark", x.count(11), second == 58 ? 119000 : 120000);
            Check.that("the position", x.count(0), second == 58 ? 57 : 58);
            for (int s = 0; s <= x.count(0); s++) {
                Check.that("the bit " + s, x.bit(s), s == second ? 2 : (int) (x.code(NOON, false) >>> s & 1));
            }
        }
        RadioClock y = Check.atSecondZero();
        String before = Check.state(y);
        Check.that("all are lost", y.hear(NOON, false, (1L << 59) - 1), 0);
        Check.that("nothing is heard", Check.state(y), before);
        Check.that("the second 58 alone", y.hear(NOON, false, ~(1L << 58)), 1);
        Check.that("its time", y.count(11), 62000 + 58000);
    }

    private static void withoutALastMark() {
        Check.sentence("b is 0 if there is no last mark");
        RadioClock x = new RadioClock();
        x.hear(NOON, false, ~1L);
        Check.that("the second 0", x.count(11), 0);
        RadioClock y = new RadioClock();
        y.pulse(2500, 29);
        Check.that("behind an ignored pulse", y.hear(NOON, false, ~(1L << 3)), 1);
        Check.that("the second 3", y.count(11), 3000);
    }

    private static void withoutAPosition() {
        Check.sentence("the time of the last mark plus 2000 if the position is NONE");
        RadioClock x = new RadioClock();
        x.pulse(777, 100);
        x.hear(NOON, false, ~1L);
        Check.that("the second 0", x.count(11), 2777);
        Check.that("a minute began", x.count(0), 0);
        RadioClock y = Check.atPosition(30);
        y.forget();
        y.hear(NOON, false, ~1L);
        Check.that("forgotten", y.count(11), 32000 + 2000);
        RadioClock z = new RadioClock();
        z.pulse(0, 100);
        Check.that("the second 0 is lost", z.hear(NOON, false, 1L), 58);
        Check.that("so no minute began", z.count(0), -1);
        Check.that("the second 58", z.count(11), 60000);
    }

    private static void behindAPosition() {
        Check.sentence("the time of the last mark plus 1000 * (the length of the present minute minus the position)");
        for (int p = 0; p <= 58; p++) {
            RadioClock x = Check.atPosition(p);
            Check.that("from " + p, x.hear(NOON, false, ~1L), 1);
            Check.that("the second 0 from " + p, x.count(11), 62000);
            Check.that("in step from " + p, x.count(0), p >= 50 ? 0 : -1);
        }
        for (int p = 50; p <= 59; p++) {
            RadioClock x = Check.inLeapMinute(p);
            Check.that("of 61 seconds, from " + p, x.hear(60, false, ~1L), 1);
            Check.that("the second 0 from " + p, x.count(11), 122000 + 61000);
            Check.that("in step from " + p, x.count(0), p >= 51 ? 0 : -1);
        }
        Check.sentence("b is found before the first of them");
        RadioClock y = Check.behind(2, 57, 1);
        y.hear(58, true, 0);
        y.hear(59, true, 0);
        Check.that("the length of the minute that begins does not count", y.count(11), 182000 + 58000);
    }

    private static void notLaterThanThePulseBefore() {
        Check.sentence("A pulse of them that would not be later than the pulse before does not come.");
        for (int second = 0; second <= 58; second++) {
            for (int off = -1; off <= 1; off++) {
                RadioClock x = new RadioClock();
                int time = 1000 * second + off;
                if (time < 0) {
                    continue;
                }
                x.pulse(time, 29);
                Check.that("behind an ignored pulse at " + time, x.hear(NOON, false, 0), off < 0 ? 59 - second : 58 - second);
                Check.that("none of them was ignored", x.count(13), 1);
            }
        }
        RadioClock y = Check.atPosition(58);
        y.pulse(62000, 29);
        Check.that("the second 0 does not come", y.hear(NOON, false, 0), 58);
        Check.that("so the minute begins with the second 1", y.bit(0), 2);
        RadioClock z = Check.atPosition(58);
        z.pulse(61999, 29);
        Check.that("the second 0 comes", z.hear(NOON, false, 0), 59);
        Check.that("so the minute begins with it", z.bit(0), 0);
        RadioClock w = new RadioClock();
        w.pulse(1999940000, 100);
        w.pulse(END, 29);
        Check.that("none comes any more", w.hear(NOON, false, 0), 0);
        Check.that("the last mark", w.count(11), 1999940000);
    }

    private static void numberOfPulses() {
        Check.sentence("Returns the number of pulses that were not ignored.");
        RadioClock x = new RadioClock();
        Check.that("all", x.hear(NOON, false, 0), 59);
        Check.that("those by which the receiver gets out of step count", x.hear(NOON, false, 1023L << 1), 49);
        Check.that("none", x.hear(NOON, false, -1L), 0);
        Check.that("none was ignored", x.count(13), 0);
    }

    private static void tooLateToHear() {
        Check.sentence("IllegalStateException if b + 58000 is above 2000000000 (whatever is lost)");
        for (int late = 0; late <= 1; late++) {
            RadioClock x = new RadioClock();
            x.pulse(END - 60000 + late, 100);
            hearing("without a position", x, late == 1);
            RadioClock y = new RadioClock();
            y.pulse(END - 120000 + late, 100);
            y.pulse(END - 118000 + late, 100);
            hearing("at the position 0", y, late == 1);
            RadioClock z = new RadioClock();
            z.pulse(END - 65000 + late, 100);
            z.pulse(END - 63000 + late, 100);
            for (int second = 1; second <= 3; second++) {
                z.pulse(END - 63000 + late + 1000 * second, 100);
            }
            Check.fails("at the position 3", Check.STATE, () -> z.hear(NOON, false, 0));
        }
        RadioClock w = new RadioClock();
        w.pulse(END, 29);
        Check.that("without a mark b is 0", w.hear(NOON, false, 0), 0);
        RadioClock v = new RadioClock();
        v.pulse(END, 100);
        Check.fails("the latest mark", Check.STATE, () -> v.hear(NOON, false, 0));
    }

    private static void hearing(String where, RadioClock x, boolean late) {
        for (long lost : new long[] {-1L, ~1L, 1L << 58, 0}) {
            if (late) {
                Check.fails("too late " + where, Check.STATE, () -> x.hear(NOON, false, lost));
                Check.fails("the minute is looked at first", Check.ARGUMENT, () -> x.hear(-1, false, lost));
            } else {
                Check.that("in time " + where, x.hear(NOON, false, lost), Long.bitCount(~lost & (1L << 59) - 1));
                x.undo();
            }
        }
        if (!late) {
            x.hear(NOON, false, 0);
            Check.that("the last mark", x.count(11), END);
        }
    }

    private static void minutesToHear() {
        Check.sentence("IllegalArgumentException if there is no such minute");
        RadioClock x = new RadioClock();
        for (int minute : new int[] {-1, LAST + 1, Integer.MIN_VALUE, Integer.MAX_VALUE}) {
            Check.fails("hear(" + minute + ")", Check.ARGUMENT, () -> x.hear(minute, true, 0));
        }
        Check.that("the first one", x.hear(0, true, 0), 59);
        Check.that("the last one", x.hear(LAST, true, 0), 59);
    }

    private static void sixHundredBytes() {
        Check.sentence("Returns the new length of the buffer. IllegalStateException if the length would exceed 600");
        RadioClock x = new RadioClock();
        for (int length = 20; length <= 600; length += 20) {
            Check.that("append", x.append(SPACES, SPACES, SPACES, SPACES, SPACES), length);
        }
        for (int i = 0; i < 3; i++) {
            Check.fails("one more", Check.STATE, () -> x.append(0, 0, 0, 0, 0));
        }
        Check.that("nothing was appended", x.load(600), 0);
        Check.that("empty", x.append(SPACES, SPACES, SPACES, SPACES, SPACES), 20);
        Check.sentence("A receiver is read from a text of at most 600 bytes");
        RadioClock y = new RadioClock();
        String text = "mend 1;".repeat(84) + "drift -499;" + "x";
        Check.append(y, Check.bytes(text));
        Check.that("the byte 600 counts", y.load(600), -2);
        Check.that("its position", y.errorPosition(), 599);
        Check.append(y, Check.bytes(text));
        Check.that("the first 599 bytes", y.load(599), 0);
        Check.that("all statements", y.count(10), -499);
    }

    private static void bytesOfArguments() {
        Check.sentence("the four bytes of each argument in order, the most significant byte first");
        for (int at = 0; at < 20; at++) {
            RadioClock x = new RadioClock();
            int[] words = {SPACES, SPACES, SPACES, SPACES, SPACES};
            words[at / 4] ^= 0xdf << 24 - at % 4 * 8;
            x.append(words[0], words[1], words[2], words[3], words[4]);
            Check.that("a byte 255", x.load(20), -2);
            Check.that("its position", x.errorPosition(), at);
        }
    }

    private static void lengthsOfLoad() {
        Check.sentence("length: number of bytes, 0 to the length of the buffer; IllegalArgumentException if length is out of range");
        RadioClock x = new RadioClock();
        for (int length : new int[] {-1, 1, 20, 600, 601, Integer.MIN_VALUE, Integer.MAX_VALUE}) {
            Check.fails("an empty buffer, load(" + length + ")", Check.ARGUMENT, () -> x.load(length));
        }
        Check.that("an empty buffer, load(0)", x.load(0), 0);
        Check.append(x, Check.bytes("mend 2;       mend 3;                   "));
        for (int length : new int[] {-1, 41, 60, 600, Integer.MIN_VALUE, Integer.MAX_VALUE}) {
            Check.fails("40 bytes, load(" + length + ")", Check.ARGUMENT, () -> x.load(length));
        }
        Check.that("all of it", x.load(40), 0);
        Check.that("is read", x.count(9), 3);
        Check.append(x, Check.bytes("mend 2;       mend 3;                   "));
        Check.that("its first 20 bytes", x.load(20), -2);
        Check.that("the rest is none of the text", x.errorPosition(), 20);
        Check.append(x, Check.bytes("mend 2;       mend 3;                   "));
        Check.that("its first 7 bytes", x.load(7), 0);
        Check.that("are read", x.count(9), 2);
        Check.append(x, Check.bytes("mend 2;       mend 3;                   "));
        Check.that("none of it", x.load(0), 0);
        Check.that("is read as a new receiver", x.count(9), 0);
    }

    private static void emptyAfterwards() {
        Check.sentence("in case of an error the present one stays. The buffer is empty afterwards in both cases; the slots stay.");
        for (int way = 0; way < 2; way++) {
            RadioClock x = Check.behind(2, NOON, 3);
            x.save(0);
            x.set(4, 7);
            x.save(1);
            x.set(4, 8);
            String before = Check.state(x);
            Check.that("load", Check.load(x, way == 0 ? "mend 1;                      " : "mend 1;window 8;hear 5;x"), way == 0 ? 0 : -2);
            Check.that("the receiver", Check.state(x).equals(before), way == 1);
            Check.fails("the buffer is empty", Check.ARGUMENT, () -> x.load(1));
            Check.that("its length", x.append(0, 0, 0, 0, 0), 20);
            Check.that("slot 0", x.restore(0), 3);
            Check.that("its drift", x.count(10), 0);
            Check.that("slot 1", x.restore(1), 3);
            Check.that("its drift", x.count(10), 7);
        }
    }

    private static void framesOfATextAndPresentOnes() {
        Check.sentence("Returns the number of frames that are kept, or the error code.");
        RadioClock x = Check.behind(2, NOON, 5);
        StringBuilder text = new StringBuilder("window 8;");
        for (int heard = 0; heard <= 12; heard++) {
            Check.that(heard + " minutes", Check.load(x, text.toString()), Math.min(8, Math.max(0, heard - 2)));
            Check.that("frames", x.count(1), Math.min(8, Math.max(0, heard - 2)));
            text.append("hear ").append(heard).append(';');
        }
    }

    private static RadioClock read(String text) {
        RadioClock x = new RadioClock();
        Check.that("load of " + text, Check.load(x, text) >= 0, true);
        Check.that("no error in " + text, x.errorPosition(), -1);
        return x;
    }

    private static void error(String text, int code, int position) {
        RadioClock x = new RadioClock();
        Check.that("load of " + text, Check.load(x, text), code);
        Check.that("position in " + text, x.errorPosition(), position);
        Check.fails("no change by " + text, Check.STATE, x::undo);
    }

    private static void repetitions() {
        Check.sentence("Braces mean any number of repetitions");
        Check.that("no statement", read("").count(11), -1);
        Check.that("one statement", read("mend 1;").count(9), 1);
        Check.that("85 statements", read("mend 1;".repeat(84) + "mend 2;").count(9), 2);
        Check.that("nothing is lost", read("hear 5;").count(11), 58000);
        Check.that("one second is lost", read("hear 5 lose 58;").count(11), 57000);
        Check.that("the same second again and again", read("hear 5" + " lose 58".repeat(70) + ";").count(11), 57000);
        StringBuilder all = new StringBuilder("hear 5 leap ");
        for (int second = 0; second <= 58; second++) {
            all.append("lose").append(second);
        }
        Check.that("all 59 seconds are lost", read(all + ";").count(11), -1);
        Check.that("more than 64 of them", read("hear5" + "lose7".repeat(118) + ";").count(11), 58000);
    }

    private static void partsThatMayBeMissing() {
        Check.sentence("brackets that a part may be missing");
        Check.that("without a minus sign", read("drift 5;").count(10), 5);
        Check.that("with one", read("drift -5;").count(10), -5);
        Check.that("without leap", read("hear 5;hear 5;hear 6;").frame(0, 3), 0);
        Check.that("with leap", read("hear 5;hear 5 leap;hear 6;").frame(0, 3), 1);
        Check.that("leap counts for its own statement alone", read("hear 5 leap;hear 6;hear 7;").frame(0, 3), 0);
        Check.that("and so does lose", read("hear 5 lose 58;hear 6;").count(11), 57000 + 2000 + 58000);
        Check.that("with leap and lose", read("hear 5;hear 5 leap lose 19;hear 6;").frame(0, 3), 2);
        error("drift --5;", -2, 7);
        error("hear 5 leap leap;", -2, 12);
        error("hear 5 lose 3 leap;", -2, 14);
        error("mend -1;", -2, 5);
        error("quorum -3;", -2, 7);
        error("pulse -5 100;", -2, 6);
        error("hear 5 lose -3;", -2, 12);
    }

    private static void longestWords() {
        Check.sentence("A word is the longest possible sequence of the letters a to z");
        error("mendmend 1;", -2, 0);
        error("mendwindow 3;", -2, 0);
        error("mendq 1;", -2, 0);
        error("men d 1;", -2, 0);
        error("hear 5 leaplose 3;", -2, 7);
        error("hear 5 leapx;", -2, 7);
        error("hear 5 leapz lose 3;", -2, 7);
        error("hear 5 losea 3;", -2, 7);
        error("hear 5 lose 3 losez 4;", -2, 14);
        error("hear 5 lea;", -2, 7);
        error("hear 5 lose 3 los 4;", -2, 14);
        error("pulses 5 5;", -2, 0);
        for (String word : new String[] {"tolerance", "quorum", "window", "mend", "drift", "pulse", "hear"}) {
            String more = word.equals("pulse") ? " 5 5;" : word.equals("tolerance") ? " 50;" : " 3;";
            read(word + more);
            for (int at = 0; at < word.length(); at++) {
                error(word.substring(0, at) + "z" + word.substring(at + 1) + more, -2, 0);
                error(word.substring(0, at) + word.substring(at + 1) + more, -2, 0);
                error(word.substring(0, at) + "z" + word.substring(at) + more, -2, 0);
            }
        }
        Check.that("a word ends at a digit", read("mend3;").count(9), 3);
        Check.that("a word begins behind a digit", read("hear5leap lose3lose58;").count(11), 57000);
        error("mend`1;", -2, 4);
        error("mend{1;", -2, 4);
        error("MEND 1;", -2, 0);
        error("mEnd 1;", -2, 0);
        error("mend@1;", -2, 4);
        error("mend[1;", -2, 4);
    }

    private static void longestNumbers() {
        Check.sentence("N is the longest possible sequence of digits");
        error("mend 12;", -3, 5);
        Check.that("zeros ahead", read("mend 0003;").count(9), 3);
        Check.that("many zeros ahead", read("mend " + "0".repeat(593) + "3;").count(9), 3);
        error("pulse 1234;", -2, 10);
        error("mend 1 2;", -2, 7);
        error("mend 1/;", -2, 6);
        error("mend 1:;", -2, 6);
        error("mend " + "9".repeat(594) + ";", -3, 5);
        error("mend 4294967296;", -3, 5);
        error("mend 18446744073709551616;", -3, 5);
        error("mend 10000000000000000000000000000000000000003;", -3, 5);
        error("pulse 4294967296 5;", -3, 6);
        error("pulse 5 4294967296;", -3, 8);
        error("drift 4294967296;", -3, 6);
        error("hear 18446744073709551616;", -3, 5);
        error("hear 5 lose 18446744073709551616;", -3, 12);
    }

    private static void spaces() {
        Check.sentence("Spaces (byte 32) may stand in front of every token and at the end of the text.");
        Check.that("none", read("drift-5;mend3;pulse5 5;hear7leap;").count(10), -5);
        Check.that("many", read("   drift   -   5   ;   mend   3   ;   ").count(10), -5);
        Check.that("many", read("   hear   5   leap   lose   58   lose   57   ;   ").count(11), 56000);
        Check.that("many", read("   pulse   5   100   ;   ").count(11), 5);
        Check.that("nothing else", read(" ".repeat(600)).count(9), 0);
        for (int other : new int[] {0, 9, 10, 13, 31, 33, 127, 128, 160, 255}) {
            error("mend " + (char) other + "1;", -2, 5);
            error("mend 1;" + (char) other, -2, 7);
            error((char) other + "mend 1;", -2, 0);
            error("mend 1" + (char) other + ";", -2, 6);
        }
    }

    private static void inTheirOrder() {
        Check.sentence("The statements are carried out in their order by a new receiver");
        Check.that("the later setting", read("mend 1;mend 2;").count(9), 2);
        Check.that("a pulse behind the tolerance", read("tolerance 10;pulse 0 100;pulse 2011 100;").count(0), -1);
        Check.that("a pulse ahead of the tolerance", read("pulse 0 100;pulse 2011 100;tolerance 10;").count(0), 0);
        RadioClock x = Check.behind(2, NOON, 5);
        x.set(0, 10);
        x.pulse(x.count(11) + 1000, 100);
        Check.load(x, "pulse 0 100;pulse 2100 100;");
        Check.that("not by the present one", Check.state(x), Check.state(read("pulse 0 100;pulse 2100 100;")));
        Check.that("a first pulse at 0", x.count(0), 0);
    }

    private static void wrongBytes() {
        Check.sentence("SYNTAX_ERROR: a byte or token that is not allowed here (at its first byte)");
        error(";", -2, 0);
        error("7;", -2, 0);
        error("-7;", -2, 0);
        error("lose 5;", -2, 0);
        error("leap;", -2, 0);
        error("  foo 5;", -2, 2);
        error("mend ;", -2, 5);
        error("mend mend;", -2, 5);
        error("mend - 1;", -2, 5);
        error("drift ;", -2, 6);
        error("drift - ;", -2, 8);
        error("drift x;", -2, 6);
        error("drift - x;", -2, 8);
        error("pulse ;", -2, 6);
        error("pulse 5 ;", -2, 8);
        error("pulse 5 x;", -2, 8);
        error("pulse 5 5 5;", -2, 10);
        error("hear ;", -2, 5);
        error("hear leap;", -2, 5);
        error("hear 5 5;", -2, 7);
        error("hear 5 lose ;", -2, 12);
        error("hear 5 lose lose 3;", -2, 12);
        error("hear 5 lose 3 3;", -2, 14);
        error("hear 5 -;", -2, 7);
        error("mend 1 mend 2;", -2, 7);
        error("mend 1;;", -2, 7);
        error("mend 1; ;", -2, 8);
        error("mend 1;  5", -2, 9);
        error("mend 1;\u00ff", -2, 7);
        error("mend \u00b9;", -2, 5);
        error("m\u00e5nd 1;", -2, 0);
        error("men\u00e4 1;", -2, 0);
        error("mend\u00e4 1;", -2, 4);
    }

    private static void unexpectedEnds() {
        Check.sentence("or an unexpected end of the text (at the length of the text)");
        String[] texts = {"m", "mend", "mend ", "mend 1", "mend 1   ", "drift", "drift -", "drift - ", "drift - 5", "pulse", "pulse 5",
            "pulse 5 ", "pulse 5 5", "hear", "hear 5", "hear 5  ", "hear 5 leap", "hear 5 leap ", "hear 5 lose", "hear 5 lose ",
            "hear 5 lose 3", "mend 1;mend 2", "mend 1; mend 2 "};
        for (String text : texts) {
            // Of the first one, the word itself is wrong.
            error(text, -2, text.equals("m") ? 0 : text.length());
        }
        error("mend 1;" + " ".repeat(588) + "mend", -2, 599);
        error("mend 1;" + " ".repeat(589) + "mend", -2, 600);
        error("mend 1;" + "mend 0; ".repeat(73) + "drift 12", -2, 599);
    }

    private static void rangesOfNumbers() {
        Check.sentence("VALUE_ERROR: a number out of its range (at its first digit)");
        String[] words = {"tolerance ", "quorum ", "window ", "mend ", "drift ", "drift -", "pulse ", "pulse 5 ", "hear ", "hear 5 lose "};
        int[] least = {10, 2, 3, 0, 0, 0, 0, 0, 0, 0};
        int[] greatest = {200, 5, 8, 3, 500, 500, END, 9999, LAST, 58};
        for (int i = 0; i < words.length; i++) {
            String more = words[i].equals("pulse ") ? " 5;" : ";";
            read(words[i] + least[i] + more);
            read(words[i] + greatest[i] + more);
            error(words[i] + (greatest[i] + 1L) + more, -3, words[i].length());
            error(words[i] + "  00" + (greatest[i] + 1L) + more, -3, words[i].length() + 2);
            if (least[i] > 0) {
                error(words[i] + (least[i] - 1) + more, -3, words[i].length());
            }
        }
        Check.that("the least drift", read("drift -500;").count(10), -500);
        Check.that("the greatest drift", read("drift 500;").count(10), 500);
        Check.that("-0", read("drift -0;").count(10), 0);
    }

    private static void timesOfPulses() {
        Check.sentence("(also the time of a pulse that is not later than that of the pulse before; at its first digit)");
        read("pulse 0 100;pulse 1 100;");
        error("pulse 0 100;pulse 0 100;", -3, 18);
        error("pulse 9 100;pulse 8 100;", -3, 18);
        error("pulse 9 29;pulse 9 100;", -3, 17);
        error("pulse 9 29; pulse  009 100;", -3, 19);
        error("pulse 9 29;pulse 9 10000;", -3, 17);
        error("pulse 9 29;pulse 9;", -3, 17);
        read("hear 5;pulse 58001 29;");
        error("hear 5;pulse 58000 29;", -3, 13);
        read("hear 5 lose 58 lose 57;pulse 56001 29;");
        error("hear 5 lose 58 lose 57;pulse 56000 29;", -3, 29);
        error("pulse " + END + " 5;pulse " + END + " 5;", -3, 25);
        error("pulse " + END + " 5;pulse 0 5;", -3, 25);
    }

    private static void minutesThatCannotBeHeard() {
        Check.sentence("a minute that cannot be heard since a time would be above 2000000000 (at the word \"hear\", whatever stands"
            + " behind it)");
        String late = "pulse 1999940001 100;";
        read("pulse 1999940000 100;hear 5;");
        error(late + "hear 5;", -3, 21);
        error(late + "   hear 5;", -3, 24);
        error(late + "hear", -3, 21);
        error(late + "hear ", -3, 21);
        error(late + "hear;", -3, 21);
        error(late + "hear x;", -3, 21);
        error(late + "hear -5;", -3, 21);
        error(late + "hear 52596000;", -3, 21);
        error(late + "hear 5 lose 59;", -3, 21);
        error(late + "hear 5 lose 58 lose 57;", -3, 21);
        error(late + "hear5", -3, 21);
        error(late + "hear\u00ff", -3, 21);
        read("pulse 1999880000 100;pulse 1999882000 100;hear 5;");
        error("pulse 1999880001 100;pulse 1999882001 100;hear 5;", -3, 42);
        read("pulse 2000000000 29;hear 5;");
        error("pulse 2000000000 30;hear 5;", -3, 20);
        error("pulse 1999940000 100;hear 5;hear 5;", -3, 28);
    }

    private static void firstErrors() {
        Check.sentence("Reading stops at the first error.");
        error("mend 4 4;", -3, 5);
        error("mend 4", -3, 5);
        error("mend 4;foo", -3, 5);
        error("foo 4;mend 4;", -2, 0);
        error("mend 1 4;mend 4;", -2, 7);
        error("drift -501 x;", -3, 7);
        error("pulse 2000000001 10000;", -3, 6);
        error("pulse 2000000001;", -3, 6);
        error("pulse x 10000;", -2, 6);
        error("pulse 5 10000 x;", -3, 8);
        error("hear 52596000 lose 59;", -3, 5);
        error("hear 52596000 leap leap;", -3, 5);
        error("hear 52596000", -3, 5);
        error("hear 5 lose 59 lose 60;", -3, 12);
        error("hear 5 lose 59 lose;", -3, 12);
        error("hear 5 lose 59 leap;", -3, 12);
        error("hear 5 lose 59 x;", -3, 12);
        error("hear 5 lose 59", -3, 12);
        error("hear 5 lose x lose 59;", -2, 12);
        error("hear 5 lose lose 59;", -2, 12);
        error("hear 5 lose 5 lose 59 lose x;", -3, 19);
        error("hear x leap leap;", -2, 5);
        error("mend x;foo;", -2, 5);
        error("quorum 1;quorum 6;", -3, 7);
    }

    private static void severalErrorsAtOnce() {
        Check.sentence("If several error codes fit the same position, the first one in this list is reported");
        // At the word a sign ";" is due, and a minute could not be heard there either.
        error("pulse 1999940001 100 hear 5;", -2, 21);
        error("pulse 1999940001 100;mend 1 hear 5;", -2, 28);
        error("pulse 1999940001 100;hears 5;", -2, 21);
        error("pulse 1999940001 100;hearx", -2, 21);
        error("pulse 1999940001 100;hea", -2, 21);
        error("pulse 1999940001 100;Hear 5;", -2, 21);
    }

    private static void positionOfTheError() {
        Check.sentence("Returns the position; NONE if it found no error or if there was no call.");
        RadioClock x = new RadioClock();
        Check.that("no call", x.errorPosition(), -1);
        Check.fails("a call that is refused", Check.ARGUMENT, () -> x.load(1));
        Check.that("is none", x.errorPosition(), -1);
        Check.load(x, "foo;");
        Check.that("an error at 0", x.errorPosition(), 0);
        Check.fails("a call that is refused", Check.ARGUMENT, () -> x.load(-1));
        Check.that("changes nothing", x.errorPosition(), 0);
        Check.append(x, Check.bytes("mend 1;"));
        Check.that("append changes nothing", x.errorPosition(), 0);
        Check.that("an empty text", x.load(0), 0);
        Check.that("no error", x.errorPosition(), -1);
        Check.load(x, "mend 4;");
        Check.that("another error", x.errorPosition(), 5);
        Check.load(x, "mend 1;x");
        Check.that("the latest call counts", x.errorPosition(), 7);
        Check.load(x, "mend 1;");
        Check.that("no error", x.errorPosition(), -1);
    }

    private static void writtenTime() {
        Check.sentence("the year with four digits, the month and the day with two digits each, the hour and the minute with two digits each,"
            + " and the weekday");
        RadioClock x = new RadioClock();
        int[] minutes = {0, LAST, x.number(2009, 9, 9, 9, 9), x.number(2010, 10, 10, 10, 10), x.number(2026, 11, 15, 0, 5),
            x.number(2024, 2, 29, 20, 0)};
        String[] due = {"2000-01-01 00:00 6", "2099-12-31 23:59 4", "2009-09-09 09:09 3", "2010-10-10 10:10 7", "2026-11-15 00:05 7",
            "2024-02-29 20:00 4"};
        for (int i = 0; i < due.length; i++) {
            Check.that("its length", x.writeTime(minutes[i]), 18);
            Check.that("its text", Check.written(x, 18), due[i]);
        }
        Check.sentence("writeTime: IllegalArgumentException if there is no such minute");
        for (int minute : new int[] {-1, LAST + 1, Integer.MIN_VALUE, Integer.MAX_VALUE}) {
            Check.fails("writeTime(" + minute + ")", Check.ARGUMENT, () -> x.writeTime(minute));
        }
        Check.that("what was written stays", Check.written(x, 18), due[5]);
    }

    private static void writtenBytes() {
        Check.sentence("Returns a byte of the text that was written last; there is none at first.");
        RadioClock x = new RadioClock();
        for (int index : new int[] {-1, 0, 1, 17, 18, Integer.MIN_VALUE, Integer.MAX_VALUE}) {
            Check.fails("at first, writtenByte(" + index + ")", Check.INDEX, () -> x.writtenByte(index));
        }
        Check.fails("a minute that is not written", Check.ARGUMENT, () -> x.writeTime(-1));
        Check.fails("still none", Check.INDEX, () -> x.writtenByte(0));
        x.writeTime(LAST);
        Check.that("the first byte", x.writtenByte(0), (int) '2');
        Check.that("the last byte", x.writtenByte(17), (int) '4');
        for (int index : new int[] {-1, 18, 19, Integer.MIN_VALUE, Integer.MAX_VALUE}) {
            Check.fails("writtenByte(" + index + ")", Check.INDEX, () -> x.writtenByte(index));
        }
    }
}
