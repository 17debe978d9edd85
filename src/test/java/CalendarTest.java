import java.time.LocalDate;
import java.time.LocalDateTime;
import java.time.format.DateTimeFormatter;
import java.time.temporal.ChronoUnit;

/** Promises 6, 7, 8, 27 and 28, against the calendar of the Java library. */
public final class CalendarTest {
    private static final LocalDateTime START = LocalDateTime.of(2000, 1, 1, 0, 0);
    private static final int LAST = 52595999;
    private static final int[] WRONG_MINUTES = {-1, LAST + 1, Integer.MIN_VALUE, Integer.MAX_VALUE, -1440};

    public static void main(String[] args) {
        partsAndNumbers();
        wrongParts();
        wrongNumbers();
        codes();
        writing();
        Check.end("CalendarTest");
    }

    private static void partsAndNumbers() {
        RadioClock x = new RadioClock();
        for (LocalDateTime t = START; t.getYear() < 2100; t = t.plusDays(1)) {
            LocalDateTime at = t.plusMinutes(t.getDayOfYear() * 37 % 1440);
            int minute = (int) ChronoUnit.MINUTES.between(START, at);
            int[] parts = {at.getYear(), at.getMonthValue(), at.getDayOfMonth(), at.getHour(), at.getMinute(), at.getDayOfWeek().getValue()};
            for (int what = 0; what < 6; what++) {
                Check.that("part(" + minute + ", " + what + ")", x.part(minute, what), parts[what]);
            }
            Check.that("number of " + at, x.number(parts[0], parts[1], parts[2], parts[3], parts[4]), minute);
        }
        Check.that("first minute", x.number(2000, 1, 1, 0, 0), 0);
        Check.that("last minute", x.number(2099, 12, 31, 23, 59), LAST);
        Check.that("weekday of the first day", x.part(0, 5), 6);
        Check.that("hour of the last minute", x.part(LAST, 3), 23);
        Check.that("minute of the last minute", x.part(LAST, 4), 59);
    }

    private static void wrongParts() {
        RadioClock x = new RadioClock();
        for (int minute : WRONG_MINUTES) {
            Check.fails("part(" + minute + ", 0)", Check.ARGUMENT, () -> x.part(minute, 0));
            Check.fails("code(" + minute + ")", Check.ARGUMENT, () -> x.code(minute, true));
        }
        for (int what : new int[] {-1, 6, 7, Integer.MIN_VALUE, Integer.MAX_VALUE}) {
            Check.fails("part(0, " + what + ")", Check.ARGUMENT, () -> x.part(0, what));
        }
    }

    private static void wrongNumbers() {
        RadioClock x = new RadioClock();
        int[][] wrong = {{1999, 12, 31, 0, 0}, {2100, 1, 1, 0, 0}, {2026, 0, 1, 0, 0}, {2026, 13, 1, 0, 0},
            {2026, 1, 0, 0, 0}, {2026, 1, 32, 0, 0}, {2026, 4, 31, 0, 0}, {2023, 2, 29, 0, 0}, {2024, 2, 30, 0, 0},
            {2026, 1, 1, -1, 0}, {2026, 1, 1, 24, 0}, {2026, 1, 1, 0, -1}, {2026, 1, 1, 0, 60},
            {Integer.MIN_VALUE, 1, 1, 0, 0}, {Integer.MAX_VALUE, 1, 1, 0, 0}, {2026, Integer.MAX_VALUE, 1, 0, 0},
            {2026, Integer.MIN_VALUE, 1, 0, 0}, {2026, 1, Integer.MAX_VALUE, 0, 0}, {2026, 1, Integer.MIN_VALUE, 0, 0}};
        for (int[] w : wrong) {
            Check.fails("number " + java.util.Arrays.toString(w), Check.ARGUMENT, () -> x.number(w[0], w[1], w[2], w[3], w[4]));
        }
        for (int year = 2000; year < 2100; year++) {
            for (int month = 1; month <= 12; month++) {
                int y = year;
                int m = month;
                int length = LocalDate.of(y, m, 1).lengthOfMonth();
                Check.that("last day of " + y + "-" + m, Check.answer(() -> x.part(x.number(y, m, length, 0, 0), 2)), "" + length);
                Check.fails("a day behind " + y + "-" + m, Check.ARGUMENT, () -> x.number(y, m, length + 1, 0, 0));
            }
        }
    }

    private static void codes() {
        RadioClock x = new RadioClock();
        Check.that("code of the document's tests", x.code(14135805, false), 331618626890104832L);
        Check.that("code with a leap second", x.code(14135805, true), 331618626890629120L);
        for (int minute = 0; minute <= LAST; minute += 9973) {
            Check.that("code(" + minute + ")", x.code(minute, false), codeByWeights(minute, false));
            Check.that("code(" + minute + ") with leap", x.code(minute, true), codeByWeights(minute, true));
        }
        Check.that("code of the last minute", x.code(LAST, true), codeByWeights(LAST, true));
    }

    private static long codeByWeights(int minute, boolean leap) {
        LocalDateTime at = START.plusMinutes(minute);
        int[] bits = new int[59];
        bits[19] = leap ? 1 : 0;
        bits[20] = 1;
        put(bits, 21, at.getMinute(), 7);
        parity(bits, 21, 28);
        put(bits, 29, at.getHour(), 6);
        parity(bits, 29, 35);
        put(bits, 36, at.getDayOfMonth(), 6);
        put(bits, 42, at.getDayOfWeek().getValue(), 3);
        put(bits, 45, at.getMonthValue(), 5);
        put(bits, 50, at.getYear() - 2000, 8);
        parity(bits, 36, 58);
        long code = 0;
        for (int second = 58; second >= 0; second--) {
            code = 2 * code + bits[second];
        }
        return code;
    }

    private static void put(int[] bits, int from, int value, int width) {
        int[] weights = {1, 2, 4, 8, 10, 20, 40, 80};
        int rest = value;
        // By the weights from 10 on first, the greatest ahead: so the last digit stays for the others.
        for (int i = width - 1; i >= 0; i--) {
            if (rest >= weights[i]) {
                bits[from + i] = 1;
                rest -= weights[i];
            }
        }
    }

    private static void parity(int[] bits, int from, int to) {
        int sum = 0;
        for (int second = from; second < to; second++) {
            sum += bits[second];
        }
        bits[to] = sum % 2;
    }

    private static void writing() {
        RadioClock x = new RadioClock();
        Check.fails("nothing written at first", Check.INDEX, () -> x.writtenByte(0));
        DateTimeFormatter form = DateTimeFormatter.ofPattern("yyyy-MM-dd HH:mm e", java.util.Locale.GERMANY);
        for (int minute = 0; minute <= LAST; minute += 99991) {
            Check.that("writeTime(" + minute + ")", x.writeTime(minute), 18);
            Check.that("text of " + minute, Check.written(x, 18), form.format(START.plusMinutes(minute)));
        }
        x.writeTime(LAST);
        Check.that("text of the last minute", Check.written(x, 18), "2099-12-31 23:59 4");
        x.writeTime(0);
        Check.that("text of the first minute", Check.written(x, 18), "2000-01-01 00:00 6");
        for (int minute : WRONG_MINUTES) {
            Check.fails("writeTime(" + minute + ")", Check.ARGUMENT, () -> x.writeTime(minute));
        }
        Check.that("what was written stays", Check.written(x, 18), "2000-01-01 00:00 6");
        for (int index : new int[] {-1, 18, 19, 600, Integer.MIN_VALUE, Integer.MAX_VALUE}) {
            Check.fails("writtenByte(" + index + ")", Check.INDEX, () -> x.writtenByte(index));
        }
        x.set(0, 50);
        x.undo();
        Check.that("undo leaves what was written", Check.written(x, 18), "2000-01-01 00:00 6");
        Check.load(x, "mend 1;");
        Check.that("load leaves what was written", Check.written(x, 18), "2000-01-01 00:00 6");
    }
}
