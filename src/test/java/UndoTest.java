import java.util.ArrayList;
import java.util.List;

/** Promises 29 to 31: undo and slots. */
public final class UndoTest {
    private static final int NOON = 14135805;

    public static void main(String[] args) {
        eachChange();
        eightChanges();
        whatIsNoChange();
        whatUndoLeaves();
        lengthOfTheMinute();
        undoOfManyFrames();
        slots();
        slotsAndUndo();
        Check.end("UndoTest");
    }

    private static RadioClock busy() {
        RadioClock x = Check.atSecondZero();
        x.set(1, 2);
        for (int i = 0; i < 5; i++) {
            int more = i == 3 ? 12 : 0;
            Check.minute(x, Check.bits(x, NOON + i, false), 0);
            x.pulse(x.count(11) + 1000 + more, 300);
        }
        return x;
    }

    private static void eachChange() {
        RadioClock x = busy();
        x.save(1);
        x.forget();
        List<Runnable> changes = new ArrayList<>();
        changes.add(() -> x.hear(NOON, true, 5L));
        changes.add(() -> x.pulse(x.count(11) + 1000, 200));
        changes.add(() -> x.pulse(x.count(11) + 1100, 20));
        changes.add(() -> x.set(0, 17));
        changes.add(() -> x.set(1, 4));
        changes.add(() -> x.set(2, 3));
        changes.add(() -> x.set(3, 3));
        changes.add(() -> x.set(4, -3));
        changes.add(() -> x.restore(1));
        changes.add(x::discipline);
        changes.add(x::forget);
        changes.add(() -> Check.load(x, "window 4; hear 100; hear 101; hear 102;"));
        List<String> states = new ArrayList<>();
        for (int i = 0; i < changes.size(); i++) {
            states.add(Check.state(x));
            changes.get(i).run();
            String then = Check.state(x);
            Check.that("change " + i + " changes something", then.equals(states.get(i)), false);
            Check.that("one undo", x.undo() <= 7, true);
            Check.that("undo of change " + i, Check.state(x), states.get(i));
            changes.get(i).run();
            Check.that("change " + i + " again", Check.state(x), then);
        }
        for (int left = 7; left >= 0; left--) {
            Check.that("undo", x.undo(), left);
            Check.that("state behind undo to " + left, Check.state(x), states.get(changes.size() - 8 + left));
        }
        Check.fails("older changes can't be undone", Check.STATE, x::undo);
        Check.that("nothing changed", Check.state(x), states.get(changes.size() - 8));
    }

    private static void eightChanges() {
        for (int changes = 1; changes <= 20; changes++) {
            RadioClock x = new RadioClock();
            for (int i = 1; i <= changes; i++) {
                x.set(4, i);
            }
            int kept = Math.min(changes, 8);
            for (int i = 1; i <= kept; i++) {
                Check.that("undo " + i + " of " + changes, x.undo(), kept - i);
                Check.that("the drift", x.count(10), changes - i);
            }
            Check.fails("one more", Check.STATE, x::undo);
            x.set(4, 100);
            Check.that("a change behind undo", x.undo(), 0);
        }
        RadioClock x = new RadioClock();
        for (int i = 1; i <= 6; i++) {
            x.set(4, i);
        }
        x.undo();
        x.undo();
        for (int i = 11; i <= 16; i++) {
            x.set(4, i);
        }
        int[] due = {15, 14, 13, 12, 11, 4, 3, 2};
        for (int i = 0; i < 8; i++) {
            Check.that("undo", x.undo(), 7 - i);
            Check.that("the drift", x.count(10), due[i]);
        }
        Check.fails("one more", Check.STATE, x::undo);
    }

    private static void whatIsNoChange() {
        RadioClock x = new RadioClock();
        x.append(0, 0, 0, 0, 0);
        x.load(20);
        x.save(0);
        x.writeTime(5);
        x.votes(3);
        x.assembled();
        x.weakest();
        x.errorPosition();
        Check.answer(() -> x.pulse(-1, 5));
        Check.answer(() -> x.restore(1));
        Check.answer(() -> x.load(5));
        Check.answer(x::favourite);
        Check.answer(() -> x.clock(5));
        Check.fails("nothing to undo", Check.STATE, x::undo);
        x.set(4, 0);
        Check.that("a change to the same value is one", x.undo(), 0);
        x.restore(0);
        Check.that("restore is one", x.undo(), 0);
        x.load(0);
        Check.that("load of an empty text is one", x.undo(), 0);
        x.pulse(5, 5);
        Check.that("an ignored pulse is one", x.undo(), 0);
        Check.that("its time may come again", x.pulse(5, 5), 0);
        Check.that("undo", x.undo(), 0);
    }

    private static void whatUndoLeaves() {
        RadioClock x = new RadioClock();
        x.set(4, 9);
        Check.that("an error", Check.load(x, "drift x;"), -2);
        x.writeTime(NOON);
        x.save(0);
        Check.append(x, Check.bytes("mend 3;"));
        x.undo();
        Check.that("the drift is back", x.count(10), 0);
        Check.that("the position of the error stays", x.errorPosition(), 6);
        Check.that("the written text stays", Check.written(x, 18), "2026-11-16 12:45 1");
        Check.that("the text buffer stays", x.load(7), 0);
        Check.that("and is read", x.count(9), 3);
        Check.that("the buffer is empty", x.append(1, 2, 3, 4, 5), 20);
        x.undo();
        Check.that("undo of load", x.count(9), 0);
        Check.that("the buffer stays", x.append(1, 2, 3, 4, 5), 40);
        Check.that("no error then", x.errorPosition(), -1);
        Check.that("the slot stays", x.restore(0), 0);
        Check.that("with its drift", x.count(10), 9);
    }

    private static void lengthOfTheMinute() {
        RadioClock x = Check.atSecondZero();
        x.set(1, 2);
        Check.minute(x, Check.bits(x, 57, true), 0);
        Check.that("usual length", x.count(4), 60);
        x.save(0);
        Check.minute(x, Check.bits(x, 58, true), 0);
        Check.that("with a leap second", x.count(4), 61);
        x.save(1);
        Check.that("undo of its last pulse", x.undo(), 7);
        Check.that("usual length", x.count(4), 60);
        x.restore(1);
        Check.that("restored with a leap second", x.count(4), 61);
        x.restore(0);
        Check.that("restored with the usual length", x.count(4), 60);
        x.undo();
        Check.that("undo of restore", x.count(4), 61);
    }

    private static void undoOfManyFrames() {
        RadioClock x = busy();
        List<String> states = new ArrayList<>();
        for (int i = 5; i < 13; i++) {
            states.add(Check.state(x));
            x.hear(NOON + i, false, 1L << i);
        }
        for (int i = 7; i >= 0; i--) {
            Check.that("undo", x.undo(), i);
            Check.that("state " + i, Check.state(x), states.get(i));
        }
    }

    private static void slots() {
        RadioClock x = new RadioClock();
        for (int slot : new int[] {-1, 2, 3, Integer.MIN_VALUE, Integer.MAX_VALUE}) {
            Check.fails("save(" + slot + ")", Check.INDEX, () -> x.save(slot));
            Check.fails("restore(" + slot + ")", Check.INDEX, () -> x.restore(slot));
        }
        Check.fails("empty slot", Check.STATE, () -> x.restore(0));
        Check.fails("empty slot", Check.STATE, () -> x.restore(1));
        Check.that("save a new receiver", x.save(1), 0);
        Check.fails("the other slot is empty", Check.STATE, () -> x.restore(0));
        RadioClock y = busy();
        String before = Check.state(y);
        Check.that("save", y.save(0), 5);
        y.forget();
        y.set(3, 2);
        y.hear(5, true, 0);
        String then = Check.state(y);
        Check.that("save in the other one", y.save(1), y.count(1));
        Check.that("restore", y.restore(0), 5);
        Check.that("all is back", Check.state(y), before);
        y.hear(6, true, 0);
        Check.that("restore the other one", y.restore(1), 0);
        Check.that("all is back", Check.state(y), then);
        y.hear(7, true, 0);
        Check.that("a slot keeps it", y.restore(0), 5);
        Check.that("all is back", Check.state(y), before);
        y.set(4, 77);
        y.save(0);
        y.set(4, 78);
        y.restore(0);
        Check.that("in place of what was there", y.count(10), 77);
        int time = y.count(11);
        y.pulse(time + 400, 10);
        y.restore(0);
        Check.that("the time of the pulse before is back too", y.pulse(time + 400, 10), 0);
    }

    private static void slotsAndUndo() {
        RadioClock x = new RadioClock();
        x.set(4, 1);
        x.save(0);
        x.set(4, 2);
        x.save(0);
        x.undo();
        Check.that("undo leaves the slot", x.count(10), 1);
        x.restore(0);
        Check.that("the slot", x.count(10), 2);
        Check.that("undo of restore", x.undo(), 1);
        Check.that("the drift", x.count(10), 1);
        x.load(0);
        Check.that("load leaves the slots", x.restore(0), 0);
        Check.that("the slot", x.count(10), 2);
        x.set(4, 3);
        x.save(1);
        Check.that("save is no change", x.undo(), 3);
        Check.that("so set is undone", x.count(10), 2);
    }
}
