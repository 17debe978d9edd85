import java.util.NoSuchElementException;

/**
 * A receiver for a radio clock. This class keeps the present receiver, what undo and the slots can
 * bring back, and the texts that go in and out; the classes inside it do the receiving itself.
 */
public final class RadioClock {
    public static final int NONE = -1;
    public static final int SYNTAX_ERROR = -2;
    public static final int VALUE_ERROR = -3;

    private static final int MAX_TIME = 2000000000;
    private static final int MAX_LENGTH = 9999;
    private static final int LAST_CODE_SECOND = 58;
    private static final int MILLIS_OF_MINUTE = 60000;
    private static final int MILLION = 1000000;

    private static final int MAX_FRAMES = 8;
    private static final int MAX_FIXES = 8;
    private static final int MAX_CHANGES = 8;
    private static final int SLOTS = 2;
    private static final int MAX_TEXT = 600;
    private static final int WRITTEN_LENGTH = 18;

    private static final int TOLERANCE = 0;
    private static final int QUORUM = 1;
    private static final int WINDOW = 2;
    private static final int MEND = 3;
    private static final int DRIFT = 4;
    private static final int SETTINGS = 5;
    private static final int[] LEAST_SETTINGS = {10, 2, 3, 0, -500};
    private static final int[] GREATEST_SETTINGS = {200, 5, 8, 3, 500};

    private static final int PULSE_STATEMENT = 5;
    private static final int HEAR_STATEMENT = 6;

    private final Receiver present = new Receiver();
    private final Receiver blank = new Receiver();
    private final Receiver trial = new Receiver();

    // The receivers ahead of the latest changes, in a ring: pastEnd is where the next one goes.
    private final Receiver[] past = new Receiver[MAX_CHANGES];
    private int pastEnd;
    private int pastCount;

    private final Receiver[] slots = new Receiver[SLOTS];
    private final boolean[] slotFilled = new boolean[SLOTS];

    private final Reader reader = new Reader();

    private final byte[] written = new byte[WRITTEN_LENGTH];
    private int writtenLength;

    public RadioClock() {
        for (int i = 0; i < MAX_CHANGES; i++) {
            past[i] = new Receiver();
        }
        for (int i = 0; i < SLOTS; i++) {
            slots[i] = new Receiver();
        }
    }

    public int append(int a, int b, int c, int d, int e) throws IllegalStateException {
        if (reader.buffered + 20 > MAX_TEXT) {
            throw new IllegalStateException("the text buffer is full");
        }
        reader.buffer(a);
        reader.buffer(b);
        reader.buffer(c);
        reader.buffer(d);
        reader.buffer(e);
        return reader.buffered;
    }

    public int load(int length) throws IllegalArgumentException {
        if (length < 0 || length > reader.buffered) {
            throw new IllegalArgumentException("the buffer has no such length");
        }
        trial.copyFrom(blank);
        reader.open(length);
        for (int i = 0; i < length && reader.findStatement(); i++) {
            reader.readStatement(trial);
            if (reader.error != 0) {
                break;
            }
            // Carried out here, not in a method of its own, since calls may only go eight deep.
            if (reader.verb == PULSE_STATEMENT) {
                trial.takePulse(reader.first, reader.second);
            } else if (reader.verb == HEAR_STATEMENT) {
                trial.hearMinute(reader.first, reader.leap, reader.lost);
            } else {
                trial.change(reader.verb, reader.first);
            }
        }
        if (reader.error != 0) {
            return reader.error;
        }
        remember();
        present.copyFrom(trial);
        return present.frameCount;
    }

    public int errorPosition() {
        return reader.errorAt;
    }

    public int count(int what) throws IllegalArgumentException {
        switch (what) {
            case 0:
                return present.position;
            case 1:
                return present.frameCount;
            case 2:
                return present.told;
            case 3:
                return present.voters;
            case 4:
                return present.position == NONE ? 0 : present.minuteLength;
            case 5:
                return present.fixCount;
            case 6:
                return present.settings[TOLERANCE];
            case 7:
                return present.settings[QUORUM];
            case 8:
                return present.settings[WINDOW];
            case 9:
                return present.settings[MEND];
            case 10:
                return present.settings[DRIFT];
            case 11:
                return present.lastMark;
            case 12:
                return present.doubtsSoFar();
            case 13:
                return present.ignored;
            default:
                throw new IllegalArgumentException("no such number of the receiver");
        }
    }

    public int part(int minute, int what) throws IllegalArgumentException {
        if (!Calendar.hasMinute(minute)) {
            throw new IllegalArgumentException("no such minute");
        }
        int day = minute / Calendar.MINUTES_OF_DAY;
        switch (what) {
            case 0:
                return Calendar.FIRST_YEAR + Calendar.yearOf(day);
            case 1:
                return Calendar.monthOf(day);
            case 2:
                return Calendar.dayOfMonth(day);
            case 3:
                return minute / 60 % 24;
            case 4:
                return minute % 60;
            case 5:
                return Calendar.weekdayOf(day);
            default:
                throw new IllegalArgumentException("no such part");
        }
    }

    public int number(int year, int month, int day, int hour, int minute) throws IllegalArgumentException {
        if (year < Calendar.FIRST_YEAR || year > Calendar.LAST_YEAR) {
            throw new IllegalArgumentException("no such year");
        }
        int days = Calendar.dayNumber(year - Calendar.FIRST_YEAR, month, day);
        if (days == NONE) {
            throw new IllegalArgumentException("no such day");
        }
        if (hour < 0 || hour > 23 || minute < 0 || minute > 59) {
            throw new IllegalArgumentException("no such time of the day");
        }
        return Calendar.minuteNumber(days, hour, minute);
    }

    public long code(int minute, boolean leap) throws IllegalArgumentException {
        if (!Calendar.hasMinute(minute)) {
            throw new IllegalArgumentException("no such minute");
        }
        return Code.encode(minute, leap);
    }

    public int pulse(int time, int length) throws IllegalArgumentException {
        if (time < 0 || time > MAX_TIME || time <= present.lastPulse) {
            throw new IllegalArgumentException("no such time for a pulse");
        }
        if (length < 0 || length > MAX_LENGTH) {
            throw new IllegalArgumentException("no such length of a pulse");
        }
        remember();
        return present.takePulse(time, length);
    }

    public int hear(int minute, boolean leap, long lost) throws IllegalArgumentException, IllegalStateException {
        if (!Calendar.hasMinute(minute)) {
            throw new IllegalArgumentException("no such minute");
        }
        if (!present.canHear()) {
            throw new IllegalStateException("the minute would end too late");
        }
        remember();
        return present.hearMinute(minute, leap, lost);
    }

    public int bit(int second) throws IndexOutOfBoundsException {
        if (second < 0 || second > LAST_CODE_SECOND || second > present.position) {
            throw new IndexOutOfBoundsException("no such second in the present minute");
        }
        return Code.bitOf(present.ones, present.doubts, second);
    }

    public int frame(int frame, int what) throws IndexOutOfBoundsException, IllegalArgumentException {
        if (!present.hasFrame(frame)) {
            throw new IndexOutOfBoundsException("no such frame");
        }
        long ones = present.frameOnes[frame];
        long doubts = present.frameDoubts[frame];
        switch (what) {
            case 0:
                return Long.bitCount(doubts & Code.MATTERING);
            case 1:
                return Code.faultOf(ones, doubts);
            case 2:
                return present.minuteToldBy(frame);
            case 3:
                return Code.bitOf(ones, doubts, Code.LEAP_SECOND_BIT);
            default:
                throw new IllegalArgumentException("no such number of a frame");
        }
    }

    public int frameBit(int frame, int second) throws IndexOutOfBoundsException {
        if (!present.hasFrame(frame)) {
            throw new IndexOutOfBoundsException("no such frame");
        }
        if (second < 0 || second > LAST_CODE_SECOND) {
            throw new IndexOutOfBoundsException("no such second in a frame");
        }
        return Code.bitOf(present.frameOnes[frame], present.frameDoubts[frame], second);
    }

    public int votes(int minute) {
        present.castVotes();
        return present.ballot.votesFor(minute);
    }

    public int favourite() throws NoSuchElementException {
        present.castVotes();
        int leader = present.ballot.leader();
        if (leader == NONE) {
            throw new NoSuchElementException("there are no votes");
        }
        return leader;
    }

    public int block(int frame, int block) throws IndexOutOfBoundsException, IllegalArgumentException {
        if (!present.hasFrame(frame)) {
            throw new IndexOutOfBoundsException("no such frame");
        }
        if (block < 0 || block >= Code.BLOCKS) {
            throw new IllegalArgumentException("no such block");
        }
        return Code.blockValue(present.frameOnes[frame], present.frameDoubts[frame], block);
    }

    public int assembled() {
        return present.assembledMinute();
    }

    public int dissenting() throws NoSuchElementException {
        int minute = present.assembledMinute();
        if (minute == NONE) {
            throw new NoSuchElementException("no time can be assembled");
        }
        present.castVotes();
        return present.ballot.total - present.ballot.votesFor(minute);
    }

    public int weakest() {
        return present.mostDoubtsOfABit();
    }

    public int fix(int fix, int what) throws IndexOutOfBoundsException, IllegalArgumentException {
        if (fix < 0 || fix >= present.fixCount || fix >= MAX_FIXES) {
            throw new IndexOutOfBoundsException("no such fix");
        }
        if (what == 0) {
            return present.fixMinutes[fix];
        }
        if (what == 1) {
            return present.fixTimes[fix];
        }
        throw new IllegalArgumentException("no such part of a fix");
    }

    public long clock(int time) throws IllegalArgumentException, NoSuchElementException {
        if (time < 0 || time > MAX_TIME) {
            throw new IllegalArgumentException("no such time");
        }
        if (present.fixCount == 0 || present.fixTimes[0] > time) {
            throw new NoSuchElementException("no fix by that time");
        }
        long elapsed = (long) time - present.fixTimes[0];
        long drifted = elapsed * present.settings[DRIFT] / MILLION;
        return (long) MILLIS_OF_MINUTE * present.fixMinutes[0] + elapsed + drifted;
    }

    public float deviation() throws NoSuchElementException {
        int others = present.fixCount - 1;
        if (others < 1) {
            throw new NoSuchElementException("fewer than two fixes");
        }
        long sum = 0;
        for (int i = 1; i <= others && i < MAX_FIXES; i++) {
            sum += Math.abs(present.minutesSinceFix(i) - present.timeSinceFix(i));
        }
        return (float) sum / (float) others;
    }

    public long estimate() throws NoSuchElementException {
        if (present.fixCount < 2) {
            throw new NoSuchElementException("fewer than two fixes");
        }
        return present.driftEstimate();
    }

    public int set(int what, int value) throws IllegalArgumentException {
        if (what < 0 || what >= SETTINGS) {
            throw new IllegalArgumentException("no such setting");
        }
        if (value < LEAST_SETTINGS[what] || value > GREATEST_SETTINGS[what]) {
            throw new IllegalArgumentException("no such value of the setting");
        }
        remember();
        int previous = present.settings[what];
        present.change(what, value);
        return previous;
    }

    public int discipline() throws NoSuchElementException, IllegalStateException {
        if (present.fixCount < 2) {
            throw new NoSuchElementException("fewer than two fixes");
        }
        long drift = present.driftEstimate();
        if (drift < LEAST_SETTINGS[DRIFT] || drift > GREATEST_SETTINGS[DRIFT]) {
            throw new IllegalStateException("no drift can be as large");
        }
        remember();
        int previous = present.settings[DRIFT];
        present.change(DRIFT, (int) drift);
        return previous;
    }

    public int forget() {
        remember();
        int kept = present.frameCount;
        present.loseStep();
        return kept;
    }

    public int writeTime(int minute) throws IllegalArgumentException {
        if (!Calendar.hasMinute(minute)) {
            throw new IllegalArgumentException("no such minute");
        }
        int day = minute / Calendar.MINUTES_OF_DAY;
        writtenLength = 0;
        writeTwoDigits(Calendar.FIRST_YEAR / 100);
        writeTwoDigits(Calendar.yearOf(day));
        writeSign('-');
        writeTwoDigits(Calendar.monthOf(day));
        writeSign('-');
        writeTwoDigits(Calendar.dayOfMonth(day));
        writeSign(' ');
        writeTwoDigits(minute / 60 % 24);
        writeSign(':');
        writeTwoDigits(minute % 60);
        writeSign(' ');
        writeSign((char) ('0' + Calendar.weekdayOf(day)));
        return writtenLength;
    }

    private void writeTwoDigits(int value) {
        writeSign((char) ('0' + value / 10));
        writeSign((char) ('0' + value % 10));
    }

    private void writeSign(char sign) {
        if (writtenLength < WRITTEN_LENGTH) {
            written[writtenLength] = (byte) sign;
            writtenLength++;
        }
    }

    public int writtenByte(int index) throws IndexOutOfBoundsException {
        if (index < 0 || index >= writtenLength || index >= WRITTEN_LENGTH) {
            throw new IndexOutOfBoundsException("no such byte");
        }
        return written[index];
    }

    public int undo() throws IllegalStateException {
        if (pastCount == 0) {
            throw new IllegalStateException("there is no change to undo");
        }
        pastCount--;
        pastEnd = (pastEnd + MAX_CHANGES - 1) % MAX_CHANGES;
        present.copyFrom(past[pastEnd]);
        return pastCount;
    }

    public int save(int slot) throws IndexOutOfBoundsException {
        if (slot < 0 || slot >= SLOTS) {
            throw new IndexOutOfBoundsException("no such slot");
        }
        slots[slot].copyFrom(present);
        slotFilled[slot] = true;
        return present.frameCount;
    }

    public int restore(int slot) throws IndexOutOfBoundsException, IllegalStateException {
        if (slot < 0 || slot >= SLOTS) {
            throw new IndexOutOfBoundsException("no such slot");
        }
        if (!slotFilled[slot]) {
            throw new IllegalStateException("nothing was saved there");
        }
        remember();
        present.copyFrom(slots[slot]);
        return present.frameCount;
    }

    /** Keeps the present receiver for undo; to be called just ahead of a change. */
    private void remember() {
        past[pastEnd].copyFrom(present);
        pastEnd = (pastEnd + 1) % MAX_CHANGES;
        if (pastCount < MAX_CHANGES) {
            pastCount++;
        }
    }

    /** The calendar of 2000 to 2099. Years are 0 to 99 here, and days are counted from 2000-01-01. */
    private static final class Calendar {
        static final int FIRST_YEAR = 2000;
        static final int LAST_YEAR = 2099;
        static final int MINUTES = 52596000;
        static final int MINUTES_OF_DAY = 1440;

        private static final int DAYS_OF_FOUR_YEARS = 1461;
        private static final int[] DAYS_AHEAD_OF_MONTH = {0, 31, 59, 90, 120, 151, 181, 212, 243, 273, 304, 334, 365};

        static boolean hasMinute(int minute) {
            return minute >= 0 && minute < MINUTES;
        }

        static int minuteNumber(int day, int hour, int minute) {
            return MINUTES_OF_DAY * day + 60 * hour + minute;
        }

        /** The number of the day, or NONE if there is no such date. */
        static int dayNumber(int year, int month, int day) {
            if (year < 0 || year > 99 || month < 1 || month > 12) {
                return NONE;
            }
            boolean leapYear = year % 4 == 0;
            int ahead = DAYS_AHEAD_OF_MONTH[month - 1];
            int length = DAYS_AHEAD_OF_MONTH[month] - ahead;
            if (leapYear && month == 2) {
                length++;
            }
            if (leapYear && month > 2) {
                ahead++;
            }
            if (day < 1 || day > length) {
                return NONE;
            }
            return 365 * year + (year + 3) / 4 + ahead + day - 1;
        }

        static int yearOf(int day) {
            int dayOfFourYears = day % DAYS_OF_FOUR_YEARS;
            int year = day / DAYS_OF_FOUR_YEARS * 4;
            // The first one of four years has 366 days.
            return dayOfFourYears < 366 ? year : year + 1 + (dayOfFourYears - 366) / 365;
        }

        static int monthOf(int day) {
            int year = yearOf(day);
            int month = 1;
            while (month < 12 && dayNumber(year, month + 1, 1) <= day) {
                month++;
            }
            return month;
        }

        static int dayOfMonth(int day) {
            return day - dayNumber(yearOf(day), monthOf(day), 1) + 1;
        }

        static int weekdayOf(int day) {
            // The day 0 was a Saturday, the weekday 6.
            return (day + 5) % 7 + 1;
        }
    }

    /**
     * The code of a minute: the bit of the second s is bit s of a long. What was received has two of
     * them: ones holds the bits with the value 1, doubts the doubtful ones (which are 0 in ones).
     */
    private static final class Code {
        static final int LEAP_SECOND_BIT = 19;
        static final int BLOCKS = 3;
        /** The seconds 0 and 19 to 58. */
        static final long MATTERING = (1L << 59) - (1L << LEAP_SECOND_BIT) | 1L;

        private static final int START_BIT = 20;
        private static final int MINUTE_BIT = 21;
        private static final int HOUR_BIT = 29;
        private static final int DAY_BIT = 36;
        private static final int WEEKDAY_BIT = 42;
        private static final int MONTH_BIT = 45;
        private static final int YEAR_BIT = 50;
        private static final int[] BLOCK_STARTS = {21, 29, 36};
        private static final int[] BLOCK_ENDS = {28, 35, 58};

        static long encode(int minute, boolean leap) {
            int day = minute / Calendar.MINUTES_OF_DAY;
            long ones = 1L << START_BIT;
            if (leap) {
                ones |= 1L << LEAP_SECOND_BIT;
            }
            ones |= twoDigits(minute % 60) << MINUTE_BIT;
            ones |= twoDigits(minute / 60 % 24) << HOUR_BIT;
            ones |= twoDigits(Calendar.dayOfMonth(day)) << DAY_BIT;
            ones |= (long) Calendar.weekdayOf(day) << WEEKDAY_BIT;
            ones |= twoDigits(Calendar.monthOf(day)) << MONTH_BIT;
            ones |= twoDigits(Calendar.yearOf(day)) << YEAR_BIT;
            for (int block = 0; block < BLOCKS; block++) {
                if (isOdd(ones, block)) {
                    ones |= 1L << BLOCK_ENDS[block];
                }
            }
            return ones;
        }

        private static long twoDigits(int value) {
            return (long) (value / 10) << 4 | value % 10;
        }

        /** 0, 1, or 2 for a doubtful bit. */
        static int bitOf(long ones, long doubts, int second) {
            return (doubts >>> second & 1) != 0 ? 2 : (int) (ones >>> second & 1);
        }

        private static long maskOf(int block) {
            return (1L << BLOCK_ENDS[block] + 1) - (1L << BLOCK_STARTS[block]);
        }

        private static boolean isOdd(long ones, int block) {
            return Long.bitCount(ones & maskOf(block)) % 2 != 0;
        }

        /** The number at some bits, told digit by digit; NONE if a digit is above 9. */
        private static int numberAt(long ones, int start, int bitsOfFirstDigit) {
            int last = (int) (ones >>> start) & 15;
            int first = (int) (ones >>> start + 4) & (1 << bitsOfFirstDigit) - 1;
            return last > 9 || first > 9 ? NONE : 10 * first + last;
        }

        private static int minuteIn(long ones) {
            int minute = numberAt(ones, MINUTE_BIT, 3);
            return minute > 59 ? NONE : minute;
        }

        private static int hourIn(long ones) {
            int hour = numberAt(ones, HOUR_BIT, 2);
            return hour > 23 ? NONE : hour;
        }

        private static int dayIn(long ones) {
            int year = numberAt(ones, YEAR_BIT, 4);
            int month = numberAt(ones, MONTH_BIT, 1);
            return Calendar.dayNumber(year, month, numberAt(ones, DAY_BIT, 2));
        }

        private static boolean hasWeekdayOf(long ones, int day) {
            return ((int) (ones >>> WEEKDAY_BIT) & 7) == Calendar.weekdayOf(day);
        }

        static int faultOf(long ones, long doubts) {
            if ((doubts & MATTERING) != 0) {
                return 1;
            }
            if ((ones & 1) != 0 || (ones >>> START_BIT & 1) == 0) {
                return 2;
            }
            for (int block = 0; block < BLOCKS; block++) {
                if (isOdd(ones, block)) {
                    return 3 + block;
                }
            }
            int day = dayIn(ones);
            if (minuteIn(ones) == NONE || hourIn(ones) == NONE || day == NONE) {
                return 6;
            }
            return hasWeekdayOf(ones, day) ? 0 : 7;
        }

        /** The number of the minute by the one way to mend all doubtful bits, or NONE. */
        static int minuteOf(long ones, long doubts) {
            long gaps = doubts & MATTERING;
            int gapCount = Long.bitCount(gaps);
            if (gapCount > GREATEST_SETTINGS[MEND]) {
                return NONE;
            }
            int told = NONE;
            for (int way = 0; way < 1 << gapCount; way++) {
                long filled = fillGaps(ones, gaps, way);
                if (faultOf(filled, 0) == 0) {
                    if (told != NONE) {
                        return NONE;
                    }
                    told = Calendar.minuteNumber(dayIn(filled), hourIn(filled), minuteIn(filled));
                }
            }
            return told;
        }

        /** Puts the lowest bits of way, in turn, in place of the gaps. */
        private static long fillGaps(long ones, long gaps, int way) {
            long filled = ones;
            int taken = 0;
            for (int second = 0; second <= LAST_CODE_SECOND; second++) {
                if ((gaps >>> second & 1) != 0) {
                    filled |= (long) (way >>> taken & 1) << second;
                    taken++;
                }
            }
            return filled;
        }

        /** The value of a block; NONE if it is not sound. */
        static int blockValue(long ones, long doubts, int block) {
            if ((doubts & maskOf(block)) != 0 || isOdd(ones, block)) {
                return NONE;
            }
            if (block == 0) {
                return minuteIn(ones);
            }
            if (block == 1) {
                return hourIn(ones);
            }
            int day = dayIn(ones);
            return day != NONE && hasWeekdayOf(ones, day) ? day : NONE;
        }
    }

    /** Votes of frames for numbers from 0 on. */
    private static final class Ballot {
        private final int[] votesCast = new int[MAX_FRAMES];
        int total;

        void open() {
            total = 0;
        }

        void cast(int value) {
            if (value != NONE && total < MAX_FRAMES) {
                votesCast[total] = value;
                total++;
            }
        }

        int votesFor(int value) {
            int found = 0;
            for (int i = 0; i < total; i++) {
                if (votesCast[i] == value) {
                    found++;
                }
            }
            return found;
        }

        /** The value with the most votes, of several the least one; NONE without votes. */
        int leader() {
            int leader = NONE;
            int most = 0;
            for (int i = 0; i < total; i++) {
                int value = votesCast[i];
                int found = votesFor(value);
                if (found > most || found == most && value < leader) {
                    leader = value;
                    most = found;
                }
            }
            return leader;
        }

        /** The value with at least quorum votes and more than any other one, or NONE. */
        int winner(int quorum) {
            int leader = leader();
            int most = votesFor(leader);
            if (most < quorum) {
                return NONE;
            }
            for (int i = 0; i < total; i++) {
                if (votesCast[i] != leader && votesFor(votesCast[i]) == most) {
                    return NONE;
                }
            }
            return leader;
        }
    }

    /** All that undo and the slots bring back, and how a pulse changes it. */
    private static final class Receiver {
        private static final int USUAL_LENGTH = 60;
        private static final int LEAP_LENGTH = 61;
        private static final int LEAST_MARK_LENGTH = 30;
        private static final int MOST_SECONDS_BETWEEN_MARKS = 10;

        private static final int IGNORED = 0;
        private static final int TAKEN = 1;
        private static final int SECONDS_MISSED = 2;
        private static final int MINUTE_BEGAN = 3;
        private static final int OUT_OF_STEP = 4;

        final int[] settings = {100, 3, 5, 0, 0};

        int lastPulse = NONE;
        int lastMark = NONE;
        int ignored;

        // The present minute; while the position is NONE the other three mean nothing.
        int position = NONE;
        int minuteLength = USUAL_LENGTH;
        long ones;
        long doubts;

        final long[] frameOnes = new long[MAX_FRAMES];
        final long[] frameDoubts = new long[MAX_FRAMES];
        // What each frame tells if it may be mended as far as any setting allows.
        private final int[] frameMinutes = new int[MAX_FRAMES];
        int frameCount;
        int told = NONE;
        int voters;

        final int[] fixMinutes = new int[MAX_FIXES];
        final int[] fixTimes = new int[MAX_FIXES];
        int fixCount;

        // Nothing to be brought back, but a row for counting that is made once.
        final Ballot ballot = new Ballot();

        void copyFrom(Receiver other) {
            System.arraycopy(other.settings, 0, settings, 0, SETTINGS);
            lastPulse = other.lastPulse;
            lastMark = other.lastMark;
            ignored = other.ignored;
            position = other.position;
            minuteLength = other.minuteLength;
            ones = other.ones;
            doubts = other.doubts;
            System.arraycopy(other.frameOnes, 0, frameOnes, 0, MAX_FRAMES);
            System.arraycopy(other.frameDoubts, 0, frameDoubts, 0, MAX_FRAMES);
            System.arraycopy(other.frameMinutes, 0, frameMinutes, 0, MAX_FRAMES);
            frameCount = other.frameCount;
            told = other.told;
            voters = other.voters;
            System.arraycopy(other.fixMinutes, 0, fixMinutes, 0, MAX_FIXES);
            System.arraycopy(other.fixTimes, 0, fixTimes, 0, MAX_FIXES);
            fixCount = other.fixCount;
        }

        void change(int setting, int value) {
            settings[setting] = value;
            if (frameCount > settings[WINDOW]) {
                frameCount = settings[WINDOW];
            }
        }

        boolean hasFrame(int frame) {
            return frame >= 0 && frame < frameCount && frame < MAX_FRAMES;
        }

        int doubtsSoFar() {
            if (position == NONE) {
                return 0;
            }
            int last = Math.min(position, LAST_CODE_SECOND);
            return Long.bitCount(doubts & (1L << last + 1) - 1);
        }

        /** Takes a pulse whose time and length are in their ranges; the result is that of section 2. */
        int takePulse(int time, int length) {
            lastPulse = time;
            if (isToBeIgnored(time, length)) {
                ignored++;
                return IGNORED;
            }
            int seconds = secondsSinceMark(time);
            lastMark = time;
            if (seconds > MOST_SECONDS_BETWEEN_MARKS) {
                loseStep();
                return OUT_OF_STEP;
            }
            if (position == NONE) {
                if (seconds != 2) {
                    return TAKEN;
                }
                beginMinute(0, length);
                return MINUTE_BEGAN;
            }
            int next = position + seconds;
            if (next == minuteLength - 1) {
                loseStep();
                return OUT_OF_STEP;
            }
            if (next < minuteLength) {
                doubtSeconds(position + 1, next - 1);
                position = next;
                putBit(next, length);
                return seconds > 1 ? SECONDS_MISSED : TAKEN;
            }
            int over = next - minuteLength;
            keepFrame();
            beginMinute(over, length);
            countVotes();
            return MINUTE_BEGAN;
        }

        private boolean isToBeIgnored(int time, int length) {
            if (length < LEAST_MARK_LENGTH) {
                return true;
            }
            int seconds = secondsSinceMark(time);
            if (lastMark == NONE || seconds > MOST_SECONDS_BETWEEN_MARKS) {
                return false;
            }
            return seconds == 0 || Math.abs(time - lastMark - 1000 * seconds) > settings[TOLERANCE];
        }

        /** The seconds from the last mark on, to the nearest one; 0 if there is no last mark. */
        private int secondsSinceMark(int time) {
            return lastMark == NONE ? 0 : (time - lastMark + 500) / 1000;
        }

        /** Begins a minute of the usual length at a position. */
        private void beginMinute(int start, int length) {
            ones = 0;
            doubts = 0;
            minuteLength = USUAL_LENGTH;
            doubtSeconds(0, start - 1);
            position = start;
            putBit(start, length);
        }

        private void doubtSeconds(int from, int to) {
            for (int second = from; second <= to && second <= LAST_CODE_SECOND; second++) {
                doubts |= 1L << second;
            }
        }

        private void putBit(int second, int length) {
            if (second > LAST_CODE_SECOND) {
                return;
            }
            if (length >= 160 && length <= 240) {
                ones |= 1L << second;
            } else if (length < 60 || length > 140) {
                doubts |= 1L << second;
            }
        }

        /** What was received is no whole minute any more: no position, and no frames. */
        void loseStep() {
            position = NONE;
            frameCount = 0;
            told = NONE;
            voters = 0;
        }

        /** Ends the present minute, which is the latest frame then. */
        private void keepFrame() {
            doubtSeconds(position + 1, LAST_CODE_SECOND);
            System.arraycopy(frameOnes, 0, frameOnes, 1, MAX_FRAMES - 1);
            System.arraycopy(frameDoubts, 0, frameDoubts, 1, MAX_FRAMES - 1);
            System.arraycopy(frameMinutes, 0, frameMinutes, 1, MAX_FRAMES - 1);
            frameOnes[0] = ones;
            frameDoubts[0] = doubts;
            frameMinutes[0] = Code.minuteOf(ones, doubts);
            frameCount = Math.min(frameCount + 1, settings[WINDOW]);
        }

        /** Each frame that tells a minute votes for what is the minute of the latest frame by it. */
        void castVotes() {
            ballot.open();
            for (int k = 0; k < frameCount; k++) {
                ballot.cast(voteOf(k));
            }
        }

        private int voteOf(int k) {
            int minute = minuteToldBy(k);
            return minute == NONE ? NONE : minute + k;
        }

        /** The number of the minute that a frame tells by mend as it is now, or NONE. */
        int minuteToldBy(int k) {
            return Long.bitCount(frameDoubts[k] & Code.MATTERING) > settings[MEND] ? NONE : frameMinutes[k];
        }

        /** Finds the told minute behind a new frame, and with it makes a fix and knows a leap second. */
        private void countVotes() {
            int announcing = 0;
            castVotes();
            told = ballot.winner(settings[QUORUM]);
            if (told == NONE) {
                voters = 0;
                return;
            }
            voters = ballot.votesFor(told);
            for (int k = 0; k < frameCount; k++) {
                // A frame with a doubtful bit 19 never votes: both values of it would be a way to mend.
                if (voteOf(k) == told && (frameOnes[k] >>> Code.LEAP_SECOND_BIT & 1) != 0) {
                    announcing++;
                }
            }
            if ((told + 1) % 60 == 59 && 2 * announcing >= voters) {
                minuteLength = LEAP_LENGTH;
            }
            keepFix(told + 1, lastMark - 1000 * position);
        }

        private void keepFix(int minute, int time) {
            System.arraycopy(fixMinutes, 0, fixMinutes, 1, MAX_FIXES - 1);
            System.arraycopy(fixTimes, 0, fixTimes, 1, MAX_FIXES - 1);
            fixMinutes[0] = minute;
            fixTimes[0] = time;
            fixCount = Math.min(fixCount + 1, MAX_FIXES);
        }

        /** The time at which a minute that is heard begins. */
        private int hearingStart() {
            if (lastMark == NONE) {
                return 0;
            }
            return position == NONE ? lastMark + 2000 : lastMark + 1000 * (minuteLength - position);
        }

        boolean canHear() {
            return hearingStart() + 1000 * LAST_CODE_SECOND <= MAX_TIME;
        }

        /** Hears a minute that can be heard; the result is the number of pulses that were not ignored. */
        int hearMinute(int minute, boolean leap, long lost) {
            long bits = Code.encode(minute, leap);
            int start = hearingStart();
            int taken = 0;
            for (int second = 0; second <= LAST_CODE_SECOND; second++) {
                int time = start + 1000 * second;
                int length = (bits >>> second & 1) != 0 ? 200 : 100;
                boolean comes = (lost >>> second & 1) == 0 && time > lastPulse;
                if (comes && takePulse(time, length) != IGNORED) {
                    taken++;
                }
            }
            return taken;
        }

        /** The minute that sound blocks of the frames tell together, or NONE. */
        int assembledMinute() {
            ballot.open();
            for (int k = 0; k < frameCount; k++) {
                int value = Code.blockValue(frameOnes[k], frameDoubts[k], 0);
                ballot.cast(value == NONE ? NONE : (value + k) % 60);
            }
            int minute = ballot.winner(settings[QUORUM]);
            if (minute == NONE) {
                return NONE;
            }
            int hour = blockWinner(1, minute);
            int day = blockWinner(2, minute);
            return hour == NONE || day == NONE ? NONE : Calendar.minuteNumber(day, hour, minute);
        }

        /** The value of a block by the frames up to the oldest one of the same hour, or NONE. */
        private int blockWinner(int block, int oldest) {
            ballot.open();
            for (int k = 0; k < frameCount && k <= oldest; k++) {
                ballot.cast(Code.blockValue(frameOnes[k], frameDoubts[k], block));
            }
            return ballot.winner(settings[QUORUM]);
        }

        int mostDoubtsOfABit() {
            int most = 0;
            for (int second = 0; second <= LAST_CODE_SECOND; second++) {
                int found = 0;
                for (int k = 0; k < frameCount; k++) {
                    found += (int) ((frameDoubts[k] & Code.MATTERING) >>> second & 1);
                }
                most = Math.max(most, found);
            }
            return most;
        }

        /** The milliseconds from a fix to the latest one by their minutes. */
        long minutesSinceFix(int fix) {
            return (long) MILLIS_OF_MINUTE * (fixMinutes[0] - fixMinutes[fix]);
        }

        /** The milliseconds from a fix to the latest one by the time of the receiver. */
        long timeSinceFix(int fix) {
            return (long) fixTimes[0] - fixTimes[fix];
        }

        /** The estimate of section 6, for at least two fixes. */
        long driftEstimate() {
            long elapsed = timeSinceFix(1);
            // Between two fixes there are the marks of a whole minute; the test is for the divisor alone.
            return elapsed == 0 ? 0 : (minutesSinceFix(1) - elapsed) * MILLION / elapsed;
        }
    }

    /** Reads the statements of a text one by one; error is 0 until the first error. */
    private static final class Reader {
        private static final long ABOVE_ALL_RANGES = 10000000000L;

        private final byte[] text = new byte[MAX_TEXT];
        int buffered;

        private int length;
        private int at;
        private int wordStart;
        int error;
        int errorAt = NONE;

        // The statement that was read last: a setting has its value in first.
        int verb;
        int first;
        int second;
        boolean leap;
        long lost;

        /** Puts four bytes behind the text in the buffer, the most significant one first. */
        void buffer(int bytes) {
            for (int shift = 24; shift >= 0 && buffered < MAX_TEXT; shift -= 8) {
                text[buffered] = (byte) (bytes >> shift);
                buffered++;
            }
        }

        /** Begins to read the first bytes of the buffer, which counts as empty from now on. */
        void open(int firstBytes) {
            length = Math.min(firstBytes, buffered);
            buffered = 0;
            at = 0;
            error = 0;
            errorAt = NONE;
        }

        /** Whether the text goes on with anything but spaces. */
        boolean findStatement() {
            skipSpaces();
            return at < length;
        }

        /** Reads a statement for a receiver that has carried out those ahead of it. */
        void readStatement(Receiver receiver) {
            readWord();
            verb = verbOfWord();
            if (verb == NONE) {
                fail(SYNTAX_ERROR, wordStart);
            } else if (verb == PULSE_STATEMENT) {
                readPulse(receiver.lastPulse);
            } else if (verb == HEAR_STATEMENT) {
                readHearing(receiver.canHear());
            } else {
                readSetting();
            }
            if (error == 0 && !readSign(';')) {
                fail(SYNTAX_ERROR, at);
            }
        }

        private int verbOfWord() {
            if (wordIs("tolerance")) {
                return TOLERANCE;
            }
            if (wordIs("quorum")) {
                return QUORUM;
            }
            if (wordIs("window")) {
                return WINDOW;
            }
            if (wordIs("mend")) {
                return MEND;
            }
            if (wordIs("drift")) {
                return DRIFT;
            }
            if (wordIs("pulse")) {
                return PULSE_STATEMENT;
            }
            return wordIs("hear") ? HEAR_STATEMENT : NONE;
        }

        private void readSetting() {
            if (verb != DRIFT) {
                first = readNumber(LEAST_SETTINGS[verb], GREATEST_SETTINGS[verb]);
            } else if (readSign('-')) {
                first = -readNumber(0, -LEAST_SETTINGS[DRIFT]);
            } else {
                first = readNumber(0, GREATEST_SETTINGS[DRIFT]);
            }
        }

        private void readPulse(int lastPulse) {
            first = readNumber(lastPulse + 1, MAX_TIME);
            if (error == 0) {
                second = readNumber(0, MAX_LENGTH);
            }
        }

        private void readHearing(boolean canHear) {
            leap = false;
            lost = 0;
            if (!canHear) {
                fail(VALUE_ERROR, wordStart);
                return;
            }
            first = readNumber(0, Calendar.MINUTES - 1);
            if (error != 0) {
                return;
            }
            readWord();
            if (wordIs("leap")) {
                leap = true;
                readWord();
            }
            for (int i = 0; i < length && wordIs("lose"); i++) {
                lost |= 1L << readNumber(0, LAST_CODE_SECOND);
                if (error != 0) {
                    return;
                }
                readWord();
            }
            if (at > wordStart) {
                fail(SYNTAX_ERROR, wordStart);
            }
        }

        /** Reads a number in a range; an error and 0 if there is none. */
        private int readNumber(int least, int greatest) {
            skipSpaces();
            int start = at;
            long value = 0;
            while (at < length && text[at] >= '0' && text[at] <= '9') {
                value = Math.min(10 * value + text[at] - '0', ABOVE_ALL_RANGES);
                at++;
            }
            if (at == start) {
                fail(SYNTAX_ERROR, start);
                return 0;
            }
            if (value < least || value > greatest) {
                fail(VALUE_ERROR, start);
                return 0;
            }
            return (int) value;
        }

        /** Reads the letters from the next token on; at is wordStart behind it if that is no word. */
        private void readWord() {
            skipSpaces();
            wordStart = at;
            while (at < length && text[at] >= 'a' && text[at] <= 'z') {
                at++;
            }
        }

        private boolean wordIs(String word) {
            if (at - wordStart != word.length()) {
                return false;
            }
            for (int i = 0; i < word.length() && wordStart + i < length; i++) {
                if (text[wordStart + i] != word.charAt(i)) {
                    return false;
                }
            }
            return true;
        }

        private boolean readSign(char sign) {
            skipSpaces();
            if (at < length && text[at] == sign) {
                at++;
                return true;
            }
            return false;
        }

        private void skipSpaces() {
            while (at < length && text[at] == ' ') {
                at++;
            }
        }

        private void fail(int code, int position) {
            error = code;
            errorAt = position;
        }
    }
}
