import java.util.Random;

/** Random runs of calls, answer by answer against the model; the seeds are fixed, so each run is the same. */
public final class ModelTest {
    private static final int RUNS = 400;
    private static final int CALLS = 500;

    private final Random random;
    private final int seed;
    private final RadioClock x = new RadioClock();
    private final Model y = new Model();
    private int minute;
    private int call;

    private ModelTest(int seed) {
        this.seed = seed;
        random = new Random(seed);
        minute = start();
    }

    public static void main(String[] args) {
        for (int seed = 1; seed <= RUNS; seed++) {
            new ModelTest(seed).run();
        }
        Check.end("ModelTest");
    }

    private void run() {
        for (call = 1; call <= CALLS;) {
            switch (seed % 4) {
                case 0 -> hearing();
                case 1 -> pulses();
                case 2 -> texts();
                default -> {
                    int kind = random.nextInt(3);
                    if (kind == 0) {
                        hearing();
                    } else if (kind == 1) {
                        pulses();
                    } else {
                        texts();
                    }
                }
            }
            questions();
        }
    }

    private boolean chance(int outOf) {
        return random.nextInt(outOf) == 0;
    }

    private int between(int least, int greatest) {
        return least + random.nextInt(greatest - least + 1);
    }

    /** A minute near the end of an hour, a day or a year now and then. */
    private int start() {
        int some = random.nextInt(52596000);
        int kind = random.nextInt(5);
        if (kind == 0) {
            some = some / 60 * 60 + 57;
        } else if (kind == 1) {
            some = some / 1440 * 1440 + 1436;
        } else if (kind == 2) {
            some = 52595997;
        }
        return Math.min(some, 52595999);
    }

    private void same(String what, java.util.concurrent.Callable<?> mine, java.util.concurrent.Callable<?> due) {
        Check.that("seed " + seed + ", call " + call + ": " + what, Check.answer(mine), Check.answer(due));
        call++;
    }

    private void hearing() {
        if (chance(25)) {
            minute = start();
        }
        boolean leap = chance(2);
        long lost = 0;
        int losses = chance(3) ? 0 : random.nextInt(4);
        for (int i = 0; i < losses; i++) {
            lost |= 1L << random.nextInt(64);
        }
        if (chance(60)) {
            lost = random.nextLong();
        }
        int heard = chance(12) ? start() : minute;
        long missing = lost;
        same("hear(" + heard + ", " + leap + ", " + lost + ")", () -> x.hear(heard, leap, missing), () -> y.hear(heard, leap, missing));
        minute = Math.min(minute + 1, 52595999);
        changes();
    }

    private void pulses() {
        int mark = Math.max(0, y.count(11));
        for (int i = between(1, 30); i > 0; i--) {
            int steps = chance(8) ? between(0, 11) : 1;
            if (y.count(0) == -1 && chance(3)) {
                steps = 2;
            }
            if (y.count(4) > 0 && y.count(0) + steps == y.count(4) - 1 && !chance(12)) {
                steps++;
            }
            int off = chance(10) ? between(-500, 500) : between(-12, 12);
            int time = mark + 1000 * steps + off;
            int length = chance(10) ? between(0, 260) : chance(2) ? between(60, 140) : between(160, 240);
            same("pulse(" + time + ", " + length + ")", () -> x.pulse(time, length), () -> y.pulse(time, length));
            mark = Math.max(0, y.count(11));
        }
        if (chance(30)) {
            int time = chance(2) ? between(1999800000, 2000000000) : random.nextInt();
            int length = chance(2) ? random.nextInt() : between(-2, 10002);
            same("pulse(" + time + ", " + length + ")", () -> x.pulse(time, length), () -> y.pulse(time, length));
        }
        if (chance(3)) {
            changes();
        }
    }

    private void changes() {
        int kind = random.nextInt(60);
        if (kind < 12) {
            int what = chance(10) ? between(-1, 5) : between(0, 4);
            int value = switch (what) {
                case 0 -> between(8, 202);
                case 1 -> between(1, 6);
                case 2 -> between(2, 9);
                case 3 -> between(-1, 4);
                default -> between(-502, 502);
            };
            same("set(" + what + ", " + value + ")", () -> x.set(what, value), () -> y.set(what, value));
        } else if (kind == 12) {
            same("forget()", x::forget, y::forget);
        } else if (kind < 16) {
            same("discipline()", x::discipline, y::discipline);
        } else if (kind < 24) {
            for (int i = between(1, 9); i > 0; i--) {
                same("undo()", x::undo, y::undo);
            }
        } else if (kind < 28) {
            int slot = chance(8) ? between(-1, 2) : between(0, 1);
            same("save(" + slot + ")", () -> x.save(slot), () -> y.save(slot));
        } else if (kind < 31) {
            int slot = chance(8) ? between(-1, 2) : between(0, 1);
            same("restore(" + slot + ")", () -> x.restore(slot), () -> y.restore(slot));
        }
    }

    private void texts() {
        StringBuilder text = new StringBuilder();
        int mark = -1;
        for (int i = between(0, 12); i > 0; i--) {
            statement(text, mark);
            mark += between(900, 61000);
        }
        int spoilt = chance(2) ? 0 : between(1, 2);
        for (int i = 0; i < spoilt && text.length() > 0; i++) {
            spoil(text);
        }
        while (text.length() < 600 && text.length() % 20 != 0) {
            text.append(chance(40) ? 'x' : ' ');
        }
        int cut = Math.min(600, text.length()) / 20 * 20;
        int[] words = new int[cut / 4];
        for (int i = 0; i < cut; i++) {
            words[i / 4] = words[i / 4] << 8 | text.charAt(i) & 255;
        }
        for (int i = 0; i + 4 < words.length; i += 5) {
            int from = i;
            same("append", () -> x.append(words[from], words[from + 1], words[from + 2], words[from + 3], words[from + 4]),
                () -> y.append(words[from], words[from + 1], words[from + 2], words[from + 3], words[from + 4]));
        }
        int length = chance(30) ? random.nextInt() : cut - (chance(5) ? between(-1, 25) : 0);
        same("load(" + length + ") of \"" + text + "\"", () -> x.load(length), () -> y.load(length));
        same("errorPosition()", x::errorPosition, y::errorPosition);
        if (chance(4)) {
            changes();
        }
    }

    private void statement(StringBuilder text, int mark) {
        int kind = random.nextInt(14);
        switch (kind) {
            case 0 -> text.append("tolerance ").append(between(9, 201));
            case 1 -> text.append("quorum ").append(between(2, chance(6) ? 6 : 5));
            case 2 -> text.append("window ").append(between(3, chance(6) ? 9 : 8));
            case 3 -> text.append("mend ").append(between(0, chance(6) ? 4 : 3));
            case 4 -> text.append(chance(2) ? "drift " : "drift - ").append(between(0, chance(6) ? 510 : 500));
            case 5, 6 -> text.append("pulse ").append(Math.max(0, mark + between(0, 3000))).append(' ').append(between(0, 300));
            default -> {
                text.append("hear ").append(chance(40) ? between(52595990, 52596005) : minute);
                minute = Math.min(minute + 1, 52595999);
                text.append(chance(2) ? " leap" : "");
                for (int i = random.nextInt(3); i > 0; i--) {
                    text.append(" lose ").append(between(0, chance(20) ? 60 : 58));
                }
            }
        }
        text.append(chance(6) ? " ; " : ";");
    }

    private void spoil(StringBuilder text) {
        String signs = ";-0123456789 aehloprstuw\t{\u00e9\u0000";
        int at = random.nextInt(text.length());
        char sign = signs.charAt(random.nextInt(signs.length()));
        int kind = random.nextInt(4);
        if (kind == 0) {
            text.setCharAt(at, sign);
        } else if (kind == 1) {
            text.insert(at, sign);
        } else if (kind == 2) {
            text.deleteCharAt(at);
        } else {
            text.setLength(at);
        }
    }

    private void questions() {
        for (int i = between(0, 6); i > 0; i--) {
            question();
        }
        if (chance(10)) {
            for (int what = 0; what < 14; what++) {
                int asked = what;
                same("count(" + what + ")", () -> x.count(asked), () -> y.count(asked));
            }
        }
    }

    private void question() {
        int what = between(0, 3);
        int k = between(-1, 8);
        switch (random.nextInt(20)) {
            case 0, 1 -> {
                int asked = between(-1, 14);
                same("count(" + asked + ")", () -> x.count(asked), () -> y.count(asked));
            }
            case 2, 3 -> {
                int second = between(-1, 60);
                same("bit(" + second + ")", () -> x.bit(second), () -> y.bit(second));
            }
            case 4, 5 -> {
                int asked = chance(12) ? between(-1, 4) : what;
                same("frame(" + k + ", " + asked + ")", () -> x.frame(k, asked), () -> y.frame(k, asked));
            }
            case 6 -> {
                int second = between(-1, 59);
                same("frameBit(" + k + ", " + second + ")", () -> x.frameBit(k, second), () -> y.frameBit(k, second));
            }
            case 7 -> {
                int asked = chance(8) ? random.nextInt() : Math.max(y.count(2), minute) + between(-3, 1);
                same("votes(" + asked + ")", () -> x.votes(asked), () -> y.votes(asked));
            }
            case 8 -> same("favourite()", x::favourite, y::favourite);
            case 9 -> {
                int asked = chance(12) ? between(-1, 3) : between(0, 2);
                same("block(" + k + ", " + asked + ")", () -> x.block(k, asked), () -> y.block(k, asked));
            }
            case 10, 11 -> same("assembled()", x::assembled, y::assembled);
            case 12 -> same("dissenting()", x::dissenting, y::dissenting);
            case 13 -> same("weakest()", x::weakest, y::weakest);
            case 14 -> {
                int asked = chance(12) ? between(-1, 2) : between(0, 1);
                same("fix(" + k + ", " + asked + ")", () -> x.fix(k, asked), () -> y.fix(k, asked));
            }
            case 15 -> {
                int time = chance(2) ? random.nextInt(2000000000) : Math.max(0, y.count(11)) + between(-70000, 5000);
                same("clock(" + time + ")", () -> x.clock(time), () -> y.clock(time));
            }
            case 16 -> same("deviation()", x::deviation, y::deviation);
            case 17 -> same("estimate()", x::estimate, y::estimate);
            default -> calendarQuestion();
        }
    }

    private void calendarQuestion() {
        int asked = chance(10) ? random.nextInt() : random.nextInt(52596000);
        int what = between(-1, 6);
        boolean leap = chance(2);
        switch (random.nextInt(5)) {
            case 0 -> same("part(" + asked + ", " + what + ")", () -> x.part(asked, what), () -> y.part(asked, what));
            case 1 -> same("code(" + asked + ", " + leap + ")", () -> x.code(asked, leap), () -> y.code(asked, leap));
            case 2 -> same("writeTime(" + asked + ")", () -> x.writeTime(asked), () -> y.writeTime(asked));
            case 3 -> {
                int index = between(-1, 18);
                same("writtenByte(" + index + ")", () -> x.writtenByte(index), () -> y.writtenByte(index));
            }
            default -> {
                int[] t = {between(1999, 2100), between(0, 13), between(0, 32), between(-1, 24), between(-1, 60)};
                same("number", () -> x.number(t[0], t[1], t[2], t[3], t[4]), () -> y.number(t[0], t[1], t[2], t[3], t[4]));
            }
        }
    }
}
