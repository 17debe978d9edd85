import java.util.concurrent.Callable;

/** What all tests share: counting checks, and ways to drive a receiver. */
final class Check {
    private static int passed;
    private static int failed;
    private static String sentence = "";
    private static int checksAhead;

    private Check() {
    }

    /** Begins the checks of one sentence of the document; it is told with each of them that fails. */
    static void sentence(String words) {
        endSentence();
        sentence = words;
        checksAhead = passed + failed;
    }

    /** A sentence for which nothing was checked is a fault of the test. */
    private static void endSentence() {
        if (!sentence.isEmpty() && passed + failed == checksAhead) {
            that("checks of this sentence", 0, 1);
        }
    }

    static void that(String what, Object got, Object want) {
        if (want.equals(got)) {
            passed++;
        } else {
            failed++;
            if (failed <= 30) {
                if (!sentence.isEmpty()) {
                    System.out.println("  \"" + sentence + "\"");
                }
                System.out.println("  " + what + ": got " + got + ", due is " + want);
            }
        }
    }

    static void that(String what, int got, int want) {
        that(what, Integer.valueOf(got), Integer.valueOf(want));
    }

    static void that(String what, long got, long want) {
        that(what, Long.valueOf(got), Long.valueOf(want));
    }

    /** The exact class of the exception counts, so that a kind of its own is not taken for it. */
    static void fails(String what, Class<? extends Exception> kind, Callable<?> call) {
        that(what, answer(call), "throws." + kind.getSimpleName());
    }

    /** The answer of a call as a text, or the name of what it throws. */
    static String answer(Callable<?> call) {
        try {
            return String.valueOf(call.call());
        } catch (Exception e) {
            return "throws." + e.getClass().getSimpleName();
        }
    }

    static void end(String test) {
        endSentence();
        System.out.println(test + ": " + passed + " checks hold, " + failed + " do not");
        if (failed != 0 || passed == 0) {
            System.exit(1);
        }
    }

    static final Class<IllegalArgumentException> ARGUMENT = IllegalArgumentException.class;
    static final Class<IllegalStateException> STATE = IllegalStateException.class;
    static final Class<IndexOutOfBoundsException> INDEX = IndexOutOfBoundsException.class;
    static final Class<java.util.NoSuchElementException> MISSING = java.util.NoSuchElementException.class;

    /** Puts a text into the buffer of a receiver, padded with spaces to whole calls of append. */
    static void append(RadioClock x, byte[] text) {
        for (int from = 0; from < text.length; from += 20) {
            int[] words = new int[5];
            for (int i = 0; i < 20; i++) {
                int value = from + i < text.length ? text[from + i] & 255 : ' ';
                words[i / 4] = words[i / 4] << 8 | value;
            }
            x.append(words[0], words[1], words[2], words[3], words[4]);
        }
    }

    static byte[] bytes(String text) {
        return text.getBytes(java.nio.charset.StandardCharsets.ISO_8859_1);
    }

    static int load(RadioClock x, String text) {
        append(x, bytes(text));
        return x.load(text.length());
    }

    static String written(RadioClock x, int length) {
        StringBuilder text = new StringBuilder();
        for (int i = 0; i < length; i++) {
            text.append((char) x.writtenByte(i));
        }
        return text.toString();
    }

    /** Everything that can be asked of a receiver's state without changing it. */
    static String state(RadioClock x) {
        StringBuilder all = new StringBuilder();
        for (int what = 0; what < 14; what++) {
            int asked = what;
            all.append(answer(() -> x.count(asked))).append(' ');
        }
        for (int second = 0; second < 60; second++) {
            int asked = second;
            all.append(answer(() -> x.bit(asked))).append(' ');
        }
        for (int k = 0; k < 8; k++) {
            int frame = k;
            for (int what = 0; what < 4; what++) {
                int asked = what;
                all.append(answer(() -> x.frame(frame, asked))).append(' ');
            }
            for (int second = 0; second < 59; second++) {
                int asked = second;
                all.append(answer(() -> x.frameBit(frame, asked))).append(' ');
            }
            for (int what = 0; what < 2; what++) {
                int asked = what;
                all.append(answer(() -> x.fix(frame, asked))).append(' ');
            }
        }
        return all.append(answer(x::estimate)).append(answer(x::assembled)).append(answer(x::favourite)).toString();
    }

    /** A receiver with the position 0 at the time 2000; the bit of the second 0 is 0. */
    static RadioClock atSecondZero() {
        RadioClock x = new RadioClock();
        x.pulse(0, 100);
        x.pulse(2000, 100);
        return x;
    }

    /** A receiver at a position of a minute that began at the time 2000; all bits are 0. */
    static RadioClock atPosition(int position) {
        RadioClock x = atSecondZero();
        for (int second = 1; second <= position; second++) {
            x.pulse(2000 + 1000 * second, 100);
        }
        return x;
    }

    /** A receiver at the second 0, behind frames of as many minutes as count tells, from a first one on. */
    static RadioClock behind(int quorum, int first, int count) {
        RadioClock x = atSecondZero();
        x.set(1, quorum);
        for (int i = 0; i < count; i++) {
            minute(x, bits(x, first + i, false), 0);
        }
        return x;
    }

    /** A receiver at a position of a minute with 61 seconds, that began at the time 122000; all bits are 0. */
    static RadioClock inLeapMinute(int position) {
        RadioClock x = atSecondZero();
        x.set(1, 2);
        minute(x, bits(x, 57, true), 0);
        minute(x, bits(x, 58, true), 0);
        for (int second = 1; second <= position; second++) {
            x.pulse(122000 + 1000 * second, 100);
        }
        return x;
    }

    /**
     * Goes on by one minute of the usual length whose bits are given as a text of the signs 0, 1 and
     * 2 (second 0 at its head; it must be that which the minute began with), and begins the next one
     * with a bit.
     */
    static void minute(RadioClock x, String bits, int nextBit) {
        int base = x.count(11) - 1000 * x.count(0);
        for (int second = x.count(0) + 1; second < 59; second++) {
            x.pulse(base + 1000 * second, lengthOf(bits.charAt(second) - '0'));
        }
        x.pulse(base + 1000 * x.count(4), lengthOf(nextBit));
    }

    static int lengthOf(int bit) {
        return bit == 0 ? 100 : bit == 1 ? 200 : 300;
    }

    /** The code of a minute as a text for minute(..). */
    static String bits(RadioClock x, int minute, boolean leap) {
        long code = x.code(minute, leap);
        StringBuilder text = new StringBuilder();
        for (int second = 0; second < 59; second++) {
            text.append(code >>> second & 1);
        }
        return text.toString();
    }

    static String with(String bits, int second, int bit) {
        return bits.substring(0, second) + bit + bits.substring(second + 1);
    }
}
