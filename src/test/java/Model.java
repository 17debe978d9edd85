import java.time.DateTimeException;
import java.time.LocalDate;
import java.time.LocalDateTime;
import java.time.temporal.ChronoUnit;
import java.util.ArrayDeque;
import java.util.ArrayList;
import java.util.Deque;
import java.util.List;
import java.util.Map;
import java.util.NoSuchElementException;
import java.util.TreeMap;
import java.util.regex.Matcher;
import java.util.regex.Pattern;

/**
 * The document once more, as plainly as the Java library allows and with no care for speed: bits are
 * signs of texts ('?' for a doubtful one), frames and fixes are lists, and each change copies all.
 */
final class Model {
    private static final int MINUTES = 52596000;
    private static final LocalDateTime START = LocalDateTime.of(2000, 1, 1, 0, 0);
    private static final int[] LEAST = {10, 2, 3, 0, -500};
    private static final int[] GREATEST = {200, 5, 8, 3, 500};

    private static final class State {
        int[] settings = {100, 3, 5, 0, 0};
        Integer lastMark;
        int lastPulse = -1;
        Integer position;
        int length = 60;
        String bits = "";
        List<String> frames = new ArrayList<>();
        List<int[]> fixes = new ArrayList<>();
        Integer told;
        int voters;
        int ignored;

        State copy() {
            State s = new State();
            s.settings = settings.clone();
            s.lastMark = lastMark;
            s.lastPulse = lastPulse;
            s.position = position;
            s.length = length;
            s.bits = bits;
            s.frames = new ArrayList<>(frames);
            s.fixes = new ArrayList<>(fixes);
            s.told = told;
            s.voters = voters;
            s.ignored = ignored;
            return s;
        }
    }

    private static final class TextError extends Exception {
        private static final long serialVersionUID = 1;
        final int code;
        final int at;

        TextError(int code, int at) {
            this.code = code;
            this.at = at;
        }
    }

    private State s = new State();
    private final Deque<State> past = new ArrayDeque<>();
    private final State[] slots = new State[2];
    private String buffer = "";
    private int errorAt = -1;
    private String written = "";

    private static void argument(boolean good) {
        if (!good) {
            throw new IllegalArgumentException();
        }
    }

    private static void index(boolean good) {
        if (!good) {
            throw new IndexOutOfBoundsException();
        }
    }

    private static void state(boolean good) {
        if (!good) {
            throw new IllegalStateException();
        }
    }

    private static void present(boolean good) {
        if (!good) {
            throw new NoSuchElementException();
        }
    }

    private void change() {
        past.push(s);
        s = s.copy();
        while (past.size() > 8) {
            past.removeLast();
        }
    }

    int append(int a, int b, int c, int d, int e) {
        state(buffer.length() + 20 <= 600);
        StringBuilder more = new StringBuilder();
        for (int word : new int[] {a, b, c, d, e}) {
            for (int i = 3; i >= 0; i--) {
                more.append((char) (word >>> 8 * i & 255));
            }
        }
        buffer += more;
        return buffer.length();
    }

    int errorPosition() {
        return errorAt;
    }

    int count(int what) {
        argument(what >= 0 && what <= 13);
        boolean in = s.position != null;
        List<Integer> numbers = new ArrayList<>(List.of(in ? s.position : -1, s.frames.size(), s.told == null ? -1 : s.told,
            s.voters, in ? s.length : 0, s.fixes.size()));
        for (int setting : s.settings) {
            numbers.add(setting);
        }
        numbers.add(s.lastMark == null ? -1 : s.lastMark);
        numbers.add(in ? (int) s.bits.chars().limit(59).filter(c -> c == '?').count() : 0);
        numbers.add(s.ignored);
        return numbers.get(what);
    }

    int part(int minute, int what) {
        argument(minute >= 0 && minute < MINUTES && what >= 0 && what <= 5);
        LocalDateTime t = START.plusMinutes(minute);
        return new int[] {t.getYear(), t.getMonthValue(), t.getDayOfMonth(), t.getHour(), t.getMinute(),
            t.getDayOfWeek().getValue()}[what];
    }

    int number(int year, int month, int day, int hour, int minute) {
        argument(year >= 2000 && year <= 2099);
        try {
            return (int) ChronoUnit.MINUTES.between(START, LocalDateTime.of(year, month, day, hour, minute));
        } catch (DateTimeException e) {
            throw new IllegalArgumentException();
        }
    }

    private static String low(int digit, int width) {
        StringBuilder text = new StringBuilder();
        for (int i = 0; i < width; i++) {
            text.append(digit >> i & 1);
        }
        return text.toString();
    }

    private static String even(String bits) {
        return bits + bits.chars().filter(c -> c == '1').count() % 2;
    }

    private static String codeText(int minute, boolean leap) {
        LocalDateTime t = START.plusMinutes(minute);
        int year = t.getYear() % 100;
        return "0".repeat(19) + (leap ? "1" : "0") + "1"
            + even(low(t.getMinute() % 10, 4) + low(t.getMinute() / 10, 3))
            + even(low(t.getHour() % 10, 4) + low(t.getHour() / 10, 2))
            + even(low(t.getDayOfMonth() % 10, 4) + low(t.getDayOfMonth() / 10, 2) + low(t.getDayOfWeek().getValue(), 3)
                + low(t.getMonthValue() % 10, 4) + low(t.getMonthValue() / 10, 1) + low(year % 10, 4) + low(year / 10, 4));
    }

    long code(int minute, boolean leap) {
        argument(minute >= 0 && minute < MINUTES);
        return Long.parseLong(new StringBuilder(codeText(minute, leap)).reverse().toString(), 2);
    }

    int pulse(int time, int length) {
        argument(time >= 0 && time <= 2000000000 && time > s.lastPulse && length >= 0 && length <= 9999);
        change();
        return take(time, length);
    }

    private int ignore() {
        s.ignored++;
        return 0;
    }

    private int outOfStep() {
        s.position = null;
        s.frames.clear();
        s.told = null;
        s.voters = 0;
        return 4;
    }

    private int take(int time, int length) {
        s.lastPulse = time;
        String bit = length >= 60 && length <= 140 ? "0" : length >= 160 && length <= 240 ? "1" : "?";
        if (length < 30) {
            return ignore();
        }
        if (s.lastMark == null) {
            s.lastMark = time;
            return 1;
        }
        long d = (long) time - s.lastMark;
        long k = Math.floorDiv(d + 500, 1000L);
        if (k > 10) {
            s.lastMark = time;
            return outOfStep();
        }
        if (k == 0 || Math.abs(d - 1000 * k) > s.settings[0]) {
            return ignore();
        }
        s.lastMark = time;
        if (s.position == null) {
            if (k != 2) {
                return 1;
            }
            s.position = 0;
            s.length = 60;
            s.bits = bit;
            return 3;
        }
        int q = s.position + (int) k;
        if (q < s.length - 1) {
            s.bits += "?".repeat((int) k - 1) + bit;
            s.position = q;
            return k > 1 ? 2 : 1;
        }
        if (q == s.length - 1) {
            return outOfStep();
        }
        s.frames.add(0, (s.bits + "?".repeat(60)).substring(0, 59));
        cut();
        s.position = q - s.length;
        s.bits = "?".repeat(s.position) + bit;
        told(time);
        return 3;
    }

    private void cut() {
        while (s.frames.size() > s.settings[2]) {
            s.frames.remove(s.frames.size() - 1);
        }
    }

    private void told(int time) {
        s.told = best(allVotes(), s.settings[1]);
        s.voters = 0;
        s.length = 60;
        if (s.told == null) {
            return;
        }
        int announcing = 0;
        for (int k = 0; k < s.frames.size(); k++) {
            String mended = mended(s.frames.get(k));
            if (mended != null && tells(mended) + k == s.told) {
                s.voters++;
                announcing += mended.charAt(19) - '0';
            }
        }
        if (Math.floorMod(s.told + 1, 60) == 59 && announcing >= s.voters / 2.0) {
            s.length = 61;
        }
        s.fixes.add(0, new int[] {s.told + 1, time - 1000 * s.position});
        if (s.fixes.size() > 8) {
            s.fixes.remove(8);
        }
    }

    private static Integer best(List<Integer> votes, int quorum) {
        Map<Integer, Integer> counts = new TreeMap<>();
        for (int vote : votes) {
            counts.merge(vote, 1, Integer::sum);
        }
        for (Map.Entry<Integer, Integer> entry : counts.entrySet()) {
            boolean beaten = entry.getValue() < quorum;
            for (Map.Entry<Integer, Integer> other : counts.entrySet()) {
                beaten |= !other.getKey().equals(entry.getKey()) && other.getValue() >= entry.getValue();
            }
            if (!beaten) {
                return entry.getKey();
            }
        }
        return null;
    }

    private List<Integer> allVotes() {
        List<Integer> votes = new ArrayList<>();
        for (int k = 0; k < s.frames.size(); k++) {
            String mended = mended(s.frames.get(k));
            if (mended != null) {
                votes.add(tells(mended) + k);
            }
        }
        return votes;
    }

    /** The frame without doubtful bits that matter, if it tells a number. */
    private String mended(String frame) {
        if (doubts(frame) > s.settings[3]) {
            return null;
        }
        List<String> ways = new ArrayList<>();
        fill(frame, ways);
        return ways.size() == 1 ? ways.get(0) : null;
    }

    private static void fill(String frame, List<String> ways) {
        int at = frame.charAt(0) == '?' ? 0 : frame.indexOf('?', 19);
        if (at < 0) {
            if (fault(frame) == 0) {
                ways.add(frame);
            }
            return;
        }
        for (int bit = 0; bit < 2; bit++) {
            fill(frame.substring(0, at) + bit + frame.substring(at + 1), ways);
        }
    }

    private static int doubts(String frame) {
        String matters = frame.charAt(0) + frame.substring(19);
        return matters.length() - matters.replace("?", "").length();
    }

    private static boolean odd(String frame, int from, int to) {
        return frame.substring(from, to + 1).chars().filter(c -> c == '1').count() % 2 == 1;
    }

    private static int sum(String frame, int from, int... weights) {
        int sum = 0;
        for (int i = 0; i < weights.length; i++) {
            sum += frame.charAt(from + i) == '1' ? weights[i] : 0;
        }
        return sum;
    }

    private static int minuteOf(String f) {
        int value = sum(f, 21, 1, 2, 4, 8, 10, 20, 40);
        return sum(f, 21, 1, 2, 4, 8) > 9 || value > 59 ? -1 : value;
    }

    private static int hourOf(String f) {
        int value = sum(f, 29, 1, 2, 4, 8, 10, 20);
        return sum(f, 29, 1, 2, 4, 8) > 9 || value > 23 ? -1 : value;
    }

    private static LocalDate dateOf(String f) {
        if (sum(f, 36, 1, 2, 4, 8) > 9 || sum(f, 45, 1, 2, 4, 8) > 9 || sum(f, 50, 1, 2, 4, 8) > 9 || sum(f, 54, 1, 2, 4, 8) > 9) {
            return null;
        }
        try {
            return LocalDate.of(2000 + sum(f, 50, 1, 2, 4, 8, 10, 20, 40, 80), sum(f, 45, 1, 2, 4, 8, 10),
                sum(f, 36, 1, 2, 4, 8, 10, 20));
        } catch (DateTimeException e) {
            return null;
        }
    }

    private static int fault(String f) {
        if (doubts(f) > 0) {
            return 1;
        }
        if (f.charAt(0) != '0' || f.charAt(20) != '1') {
            return 2;
        }
        if (odd(f, 21, 28)) {
            return 3;
        }
        if (odd(f, 29, 35)) {
            return 4;
        }
        if (odd(f, 36, 58)) {
            return 5;
        }
        if (minuteOf(f) < 0 || hourOf(f) < 0 || dateOf(f) == null) {
            return 6;
        }
        return dateOf(f).getDayOfWeek().getValue() == sum(f, 42, 1, 2, 4) ? 0 : 7;
    }

    private static int tells(String f) {
        return (int) ChronoUnit.MINUTES.between(START, dateOf(f).atTime(hourOf(f), minuteOf(f)));
    }

    private long base() {
        return s.lastMark == null ? 0 : s.position == null ? s.lastMark + 2000L : s.lastMark + 1000L * (s.length - s.position);
    }

    int hear(int minute, boolean leap, long lost) {
        argument(minute >= 0 && minute < MINUTES);
        state(base() + 58000 <= 2000000000);
        change();
        return listen(minute, leap, lost);
    }

    private int listen(int minute, boolean leap, long lost) {
        String code = codeText(minute, leap);
        long base = base();
        int taken = 0;
        for (int second = 0; second < 59; second++) {
            long time = base + 1000 * second;
            if ((lost & 1L << second) == 0 && time > s.lastPulse) {
                taken += take((int) time, code.charAt(second) == '1' ? 200 : 100) == 0 ? 0 : 1;
            }
        }
        return taken;
    }

    private static int value(char bit) {
        return "01?".indexOf(bit);
    }

    int bit(int second) {
        index(s.position != null && second >= 0 && second <= s.position && second <= 58);
        return value(s.bits.charAt(second));
    }

    int frame(int frame, int what) {
        index(frame >= 0 && frame < s.frames.size());
        argument(what >= 0 && what <= 3);
        String f = s.frames.get(frame);
        String mended = mended(f);
        return new int[] {doubts(f), fault(f), mended == null ? -1 : tells(mended), value(f.charAt(19))}[what];
    }

    int frameBit(int frame, int second) {
        index(frame >= 0 && frame < s.frames.size() && second >= 0 && second <= 58);
        return value(s.frames.get(frame).charAt(second));
    }

    int votes(int minute) {
        return (int) allVotes().stream().filter(v -> v == minute).count();
    }

    int favourite() {
        List<Integer> votes = allVotes();
        present(!votes.isEmpty());
        int best = Integer.MAX_VALUE;
        for (int vote : votes) {
            int difference = best == Integer.MAX_VALUE ? 1 : votes(vote) - votes(best);
            if (difference > 0 || difference == 0 && vote < best) {
                best = vote;
            }
        }
        return best;
    }

    int block(int frame, int block) {
        index(frame >= 0 && frame < s.frames.size());
        argument(block >= 0 && block <= 2);
        return blockValue(s.frames.get(frame), block);
    }

    private static int blockValue(String f, int block) {
        int from = new int[] {21, 29, 36}[block];
        int to = new int[] {28, 35, 58}[block];
        if (f.substring(from, to + 1).contains("?") || odd(f, from, to)) {
            return -1;
        }
        if (block < 2) {
            return block == 0 ? minuteOf(f) : hourOf(f);
        }
        LocalDate date = dateOf(f);
        boolean right = date != null && date.getDayOfWeek().getValue() == sum(f, 42, 1, 2, 4);
        return right ? (int) ChronoUnit.DAYS.between(START.toLocalDate(), date) : -1;
    }

    int assembled() {
        List<Integer> minutes = new ArrayList<>();
        for (int k = 0; k < s.frames.size(); k++) {
            int value = blockValue(s.frames.get(k), 0);
            if (value >= 0) {
                minutes.add((value + k) % 60);
            }
        }
        Integer v = best(minutes, s.settings[1]);
        if (v == null) {
            return -1;
        }
        List<Integer> hours = new ArrayList<>();
        List<Integer> days = new ArrayList<>();
        for (int k = 0; k < s.frames.size(); k++) {
            if (k <= v) {
                hours.add(blockValue(s.frames.get(k), 1));
                days.add(blockValue(s.frames.get(k), 2));
            }
        }
        hours.removeIf(h -> h < 0);
        days.removeIf(d -> d < 0);
        Integer hour = best(hours, s.settings[1]);
        Integer day = best(days, s.settings[1]);
        return hour == null || day == null ? -1 : 1440 * day + 60 * hour + v;
    }

    int dissenting() {
        int minute = assembled();
        present(minute != -1);
        return (int) allVotes().stream().filter(v -> v != minute).count();
    }

    int weakest() {
        int most = 0;
        for (int second = 0; second < 59; second++) {
            int at = second;
            if (second == 0 || second >= 19) {
                most = Math.max(most, (int) s.frames.stream().filter(f -> f.charAt(at) == '?').count());
            }
        }
        return most;
    }

    int fix(int fix, int what) {
        index(fix >= 0 && fix < s.fixes.size());
        argument(what == 0 || what == 1);
        return s.fixes.get(fix)[what];
    }

    long clock(int time) {
        argument(time >= 0 && time <= 2000000000);
        present(!s.fixes.isEmpty() && s.fixes.get(0)[1] <= time);
        long e = time - s.fixes.get(0)[1];
        return 60000L * s.fixes.get(0)[0] + e + e * s.settings[4] / 1000000;
    }

    float deviation() {
        present(s.fixes.size() >= 2);
        long sum = 0;
        for (int[] fix : s.fixes) {
            sum += Math.abs(60000L * (s.fixes.get(0)[0] - fix[0]) - (s.fixes.get(0)[1] - fix[1]));
        }
        return (float) sum / (float) (s.fixes.size() - 1);
    }

    long estimate() {
        present(s.fixes.size() >= 2);
        long w = 60000L * (s.fixes.get(0)[0] - s.fixes.get(1)[0]);
        long e = s.fixes.get(0)[1] - s.fixes.get(1)[1];
        return (w - e) * 1000000 / e;
    }

    int set(int what, int value) {
        argument(what >= 0 && what <= 4 && value >= LEAST[what] && value <= GREATEST[what]);
        change();
        int previous = s.settings[what];
        s.settings[what] = value;
        cut();
        return previous;
    }

    int discipline() {
        long drift = estimate();
        state(drift >= -500 && drift <= 500);
        return set(4, (int) drift);
    }

    int forget() {
        change();
        int kept = s.frames.size();
        outOfStep();
        return kept;
    }

    int writeTime(int minute) {
        argument(minute >= 0 && minute < MINUTES);
        LocalDateTime t = START.plusMinutes(minute);
        written = t.toLocalDate() + " " + t.toLocalTime() + " " + t.getDayOfWeek().getValue();
        return written.length();
    }

    int writtenByte(int index) {
        index(index >= 0 && index < written.length());
        return written.charAt(index);
    }

    int undo() {
        state(!past.isEmpty());
        s = past.pop();
        return past.size();
    }

    int save(int slot) {
        index(slot == 0 || slot == 1);
        slots[slot] = s.copy();
        return s.frames.size();
    }

    int restore(int slot) {
        index(slot == 0 || slot == 1);
        state(slots[slot] != null);
        change();
        s = slots[slot].copy();
        return s.frames.size();
    }

    int load(int length) {
        argument(length >= 0 && length <= buffer.length());
        String text = buffer.substring(0, length);
        State before = s;
        buffer = "";
        s = new State();
        try {
            read(text);
        } catch (TextError e) {
            s = before;
            errorAt = e.at;
            return e.code;
        }
        State read = s;
        s = before;
        change();
        s = read;
        errorAt = -1;
        return s.frames.size();
    }

    private String text;
    private List<int[]> tokens;
    private int next;

    /** Cuts the text into tokens ahead of all else; a byte of no token is one by itself. */
    private void read(String whole) throws TextError {
        text = whole;
        tokens = new ArrayList<>();
        next = 0;
        Matcher m = Pattern.compile("[a-z]+|[0-9]+|[^ ]", Pattern.DOTALL).matcher(whole);
        while (m.find()) {
            tokens.add(new int[] {m.start(), m.end()});
        }
        while (next < tokens.size()) {
            statement();
            if (!token().equals(";")) {
                throw new TextError(-2, at());
            }
            next++;
        }
    }

    private String token() {
        return next < tokens.size() ? text.substring(tokens.get(next)[0], tokens.get(next)[1]) : "";
    }

    private int at() {
        return next < tokens.size() ? tokens.get(next)[0] : text.length();
    }

    private int numberToken(long least, long greatest) throws TextError {
        if (!token().matches("[0-9]+")) {
            throw new TextError(-2, at());
        }
        java.math.BigInteger value = new java.math.BigInteger(token());
        if (value.compareTo(java.math.BigInteger.valueOf(least)) < 0 || value.compareTo(java.math.BigInteger.valueOf(greatest)) > 0) {
            throw new TextError(-3, at());
        }
        next++;
        return value.intValue();
    }

    private void statement() throws TextError {
        String word = token();
        int what = List.of("tolerance", "quorum", "window", "mend", "drift", "pulse", "hear").indexOf(word);
        if (what < 0) {
            throw new TextError(-2, at());
        }
        if (word.equals("hear") && base() + 58000 > 2000000000) {
            throw new TextError(-3, at());
        }
        next++;
        if (word.equals("pulse")) {
            int time = numberToken(s.lastPulse + 1L, 2000000000);
            int length = numberToken(0, 9999);
            endsHere();
            take(time, length);
        } else if (word.equals("hear")) {
            hearStatement();
        } else {
            boolean minus = word.equals("drift") && token().equals("-");
            next += minus ? 1 : 0;
            int value = numberToken(word.equals("drift") ? 0 : LEAST[what], GREATEST[what]);
            s.settings[what] = minus ? -value : value;
            cut();
        }
    }

    private void endsHere() throws TextError {
        if (!token().equals(";")) {
            throw new TextError(-2, at());
        }
    }

    private void hearStatement() throws TextError {
        int minute = numberToken(0, MINUTES - 1);
        boolean leap = token().equals("leap");
        next += leap ? 1 : 0;
        long lost = 0;
        while (token().equals("lose")) {
            next++;
            lost |= 1L << numberToken(0, 58);
        }
        endsHere();
        listen(minute, leap, lost);
    }
}
