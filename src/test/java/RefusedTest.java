import java.util.ArrayList;
import java.util.List;
import java.util.concurrent.Callable;

/**
 * Section 9: each call that the document refuses, of several receivers, throws the exception that is
 * named first, and changes nothing: neither the receiver, nor what can be undone, nor the slots, nor the
 * text buffer, the position of the error and the written text.
 */
public final class RefusedTest {
    private static final int LAST = 52595999;
    private static final int END = 2000000000;
    private static final int[] FAR = {Integer.MIN_VALUE, Integer.MAX_VALUE};

    /** A refused call and what it throws. */
    private record Refused(String what, Class<? extends Exception> kind, Callable<?> call) {
    }

    public static void main(String[] args) {
        for (int kind = 0; kind < 7; kind++) {
            int number = refused(receiver(kind), kind).size();
            String state = state(receiver(kind));
            String hidden = hidden(receiver(kind));
            for (int i = 0; i < number; i++) {
                RadioClock x = receiver(kind);
                Refused refused = refused(x, kind).get(i);
                Check.sentence("A method that throws an exception changes nothing: " + refused.what() + " of the receiver " + kind);
                Check.fails(refused.what(), refused.kind(), refused.call());
                Check.that("the state then", state(x), state);
                Check.that("all that is hidden", hidden(x), hidden);
            }
        }
        Check.end("RefusedTest");
    }

    /** Receivers in several states; all of them but the new one have a text, an error, slots and changes. */
    private static RadioClock receiver(int kind) {
        RadioClock x = new RadioClock();
        if (kind == 0) {
            return x;
        }
        Check.load(x, "drift 50;hear 5 x");
        x.writeTime(12345678);
        x.set(4, 44);
        x.save(1);
        x.set(1, 2);
        if (kind == 2) {
            x.pulse(END - 1000, 100);
        } else if (kind == 3) {
            x.pulse(0, 100);
            x.pulse(2000, 300);
            x.pulse(2100, 29);
        } else if (kind == 4 || kind == 5) {
            for (int i = 0; i < 7; i++) {
                x.hear(55 + i + (i > 3 ? 1000 : 0), true, 1L << 20 + i);
            }
            x.set(3, kind == 4 ? 1 : 0);
            x.pulse(x.count(11) + 2900, 100);
        } else if (kind == 6) {
            x.hear(7, false, 0);
            x.hear(8, false, 0);
            x.hear(9, false, 0);
            x.hear(10, false, 0);
            x.forget();
        }
        Check.append(x, Check.bytes("mend 2;hear 5;hear 6;hear 7;drift -3;   "));
        if (kind == 5) {
            for (int i = 0; i < 28; i++) {
                x.append(0x20202020, 0x20202020, 0x20202020, 0x20202020, 0x20202020);
            }
        }
        return x;
    }

    private static String state(RadioClock x) {
        String written = Check.answer(() -> Check.written(x, 18));
        return Check.state(x) + " " + x.errorPosition() + " " + written + " " + x.votes(57) + " " + x.weakest() + " "
            + Check.answer(x::deviation) + " " + Check.answer(x::dissenting) + " " + Check.answer(() -> x.clock(END));
    }

    /** What only changes show: the changes, the slots, the time of the pulse before, and the text buffer. */
    private static String hidden(RadioClock x) {
        StringBuilder all = new StringBuilder();
        for (int slot = 0; slot <= 1; slot++) {
            int asked = slot;
            String answer = Check.answer(() -> x.restore(asked));
            all.append(answer).append(' ').append(brief(x)).append(' ');
            if (!answer.startsWith("throws")) {
                x.undo();
            }
        }
        all.append(Check.answer(() -> x.pulse(2101, 29))).append(' ');
        all.append(Check.answer(() -> x.append(0x20202020, 0x20202020, 0x20202020, 0x20202020, 0x20202020))).append(' ');
        for (int i = 0; i < 9; i++) {
            all.append(Check.answer(x::undo)).append(' ').append(brief(x)).append(' ');
        }
        for (int length : new int[] {600, 60, 40, 20, 0}) {
            all.append(Check.answer(() -> x.load(length))).append(' ');
        }
        return all.append(brief(x)).toString();
    }

    /** Enough to tell one receiver from another. */
    private static String brief(RadioClock x) {
        StringBuilder all = new StringBuilder();
        for (int what = 0; what < 14; what++) {
            all.append(x.count(what)).append(' ');
        }
        for (int k = 0; k < x.count(1); k++) {
            for (int what = 0; what < 4; what++) {
                all.append(x.frame(k, what)).append(' ');
            }
        }
        for (int k = 0; k < x.count(5); k++) {
            all.append(x.fix(k, 0)).append(' ').append(x.fix(k, 1)).append(' ');
        }
        return all.toString();
    }

    private static List<Refused> refused(RadioClock x, int kind) {
        List<Refused> all = new ArrayList<>();
        calendar(all, x);
        pulses(all, x, kind);
        frames(all, x);
        fixes(all, x, kind);
        changes(all, x, kind);
        return all;
    }

    private static void add(List<Refused> all, String what, Class<? extends Exception> kind, Callable<?> call) {
        all.add(new Refused(what, kind, call));
    }

    private static List<Integer> with(int... values) {
        List<Integer> all = new ArrayList<>();
        for (int value : values) {
            all.add(value);
        }
        for (int value : FAR) {
            all.add(value);
        }
        return all;
    }

    private static void calendar(List<Refused> all, RadioClock x) {
        for (int minute : with(-1, LAST + 1)) {
            add(all, "part(" + minute + ", 0)", Check.ARGUMENT, () -> x.part(minute, 0));
            add(all, "part(" + minute + ", 6)", Check.ARGUMENT, () -> x.part(minute, 6));
            add(all, "code(" + minute + ")", Check.ARGUMENT, () -> x.code(minute, true));
            add(all, "writeTime(" + minute + ")", Check.ARGUMENT, () -> x.writeTime(minute));
        }
        for (int what : with(-1, 6)) {
            add(all, "part(0, " + what + ")", Check.ARGUMENT, () -> x.part(0, what));
        }
        for (int what : with(-1, 14)) {
            add(all, "count(" + what + ")", Check.ARGUMENT, () -> x.count(what));
        }
        for (int index : with(-1, 18)) {
            add(all, "writtenByte(" + index + ")", Check.INDEX, () -> x.writtenByte(index));
        }
        add(all, "number of 31 April", Check.ARGUMENT, () -> x.number(2026, 4, 31, 0, 0));
        add(all, "number of the year 2100", Check.ARGUMENT, () -> x.number(2100, 1, 1, 0, 0));
        add(all, "number of the minute 60", Check.ARGUMENT, () -> x.number(2026, 1, 1, 0, 60));
    }

    private static void pulses(List<Refused> all, RadioClock x, int kind) {
        for (int time : new int[] {-1, END + 1, Integer.MIN_VALUE, Integer.MAX_VALUE}) {
            add(all, "pulse(" + time + ", 100)", Check.ARGUMENT, () -> x.pulse(time, 100));
            add(all, "pulse(" + time + ", -1)", Check.ARGUMENT, () -> x.pulse(time, -1));
        }
        for (int length : with(-1, 10000)) {
            add(all, "pulse(" + END + ", " + length + ")", Check.ARGUMENT, () -> x.pulse(END, length));
        }
        int[] before = {-1, -1, END - 1000, 2100, 0, 0, 238000};
        if (kind == 2 || kind == 3 || kind == 6) {
            add(all, "pulse at the time of the one before", Check.ARGUMENT, () -> x.pulse(before[kind], 100));
            add(all, "pulse ahead of it", Check.ARGUMENT, () -> x.pulse(before[kind] - 1, 29));
        }
        for (int minute : with(-1, LAST + 1)) {
            add(all, "hear(" + minute + ")", Check.ARGUMENT, () -> x.hear(minute, true, 0));
        }
        if (kind == 2) {
            add(all, "hear too late", Check.STATE, () -> x.hear(0, true, 0));
            add(all, "hear nothing too late", Check.STATE, () -> x.hear(0, true, -1L));
        }
        for (int second : with(-1, 59)) {
            add(all, "bit(" + second + ")", Check.INDEX, () -> x.bit(second));
        }
        if (kind != 3 && kind != 4 && kind != 5) {
            add(all, "bit(0)", Check.INDEX, () -> x.bit(0));
        }
    }

    private static void frames(List<Refused> all, RadioClock x) {
        int frames = x.count(1);
        for (int frame : with(-1, frames)) {
            for (int other : with(-1, 0)) {
                add(all, "frame(" + frame + ", " + other + ")", Check.INDEX, () -> x.frame(frame, other));
                add(all, "frameBit(" + frame + ", " + other + ")", Check.INDEX, () -> x.frameBit(frame, other));
                add(all, "block(" + frame + ", " + other + ")", Check.INDEX, () -> x.block(frame, other));
            }
        }
        if (frames > 0) {
            for (int what : with(-1, 4)) {
                add(all, "frame(0, " + what + ")", Check.ARGUMENT, () -> x.frame(frames - 1, what));
            }
            for (int second : with(-1, 59)) {
                add(all, "frameBit(0, " + second + ")", Check.INDEX, () -> x.frameBit(frames - 1, second));
            }
            for (int block : with(-1, 3)) {
                add(all, "block(0, " + block + ")", Check.ARGUMENT, () -> x.block(frames - 1, block));
            }
        } else {
            add(all, "favourite()", Check.MISSING, x::favourite);
            add(all, "dissenting()", Check.MISSING, x::dissenting);
        }
    }

    private static void fixes(List<Refused> all, RadioClock x, int kind) {
        int fixes = x.count(5);
        for (int fix : with(-1, fixes)) {
            for (int what : with(-1, 0)) {
                add(all, "fix(" + fix + ", " + what + ")", Check.INDEX, () -> x.fix(fix, what));
            }
        }
        for (int time : new int[] {-1, END + 1, Integer.MIN_VALUE, Integer.MAX_VALUE}) {
            add(all, "clock(" + time + ")", Check.ARGUMENT, () -> x.clock(time));
        }
        add(all, "clock(0)", Check.MISSING, () -> x.clock(0));
        if (fixes > 0) {
            for (int what : with(-1, 2)) {
                add(all, "fix(0, " + what + ")", Check.ARGUMENT, () -> x.fix(fixes - 1, what));
            }
            add(all, "clock ahead of the fix", Check.MISSING, () -> x.clock(x.fix(0, 1) - 1));
        }
        if (fixes < 2) {
            add(all, "deviation()", Check.MISSING, x::deviation);
            add(all, "estimate()", Check.MISSING, x::estimate);
            add(all, "discipline()", Check.MISSING, x::discipline);
        } else if (kind == 4) {
            add(all, "discipline() by too great an estimate", Check.STATE, x::discipline);
        }
    }

    private static void changes(List<Refused> all, RadioClock x, int kind) {
        int[] least = {10, 2, 3, 0, -500};
        int[] greatest = {200, 5, 8, 3, 500};
        for (int what = 0; what < 5; what++) {
            int asked = what;
            for (int value : with(least[what] - 1, greatest[what] + 1)) {
                add(all, "set(" + what + ", " + value + ")", Check.ARGUMENT, () -> x.set(asked, value));
            }
        }
        for (int what : with(-1, 5)) {
            add(all, "set(" + what + ", 3)", Check.ARGUMENT, () -> x.set(what, 3));
        }
        int buffered = kind == 0 ? 0 : kind == 5 ? 600 : 40;
        for (int length : with(-1, buffered + 1)) {
            add(all, "load(" + length + ")", Check.ARGUMENT, () -> x.load(length));
        }
        for (int slot : with(-1, 2)) {
            add(all, "save(" + slot + ")", Check.INDEX, () -> x.save(slot));
            add(all, "restore(" + slot + ")", Check.INDEX, () -> x.restore(slot));
        }
        add(all, "restore(0)", Check.STATE, () -> x.restore(0));
        if (kind == 0) {
            add(all, "restore(1)", Check.STATE, () -> x.restore(1));
            add(all, "undo()", Check.STATE, x::undo);
        }
        if (kind == 5) {
            add(all, "append()", Check.STATE, () -> x.append(1, 2, 3, 4, 5));
        }
    }
}
