import java.util.ArrayList;
import java.util.List;

/**
 * The boundary cases of the changes in section 8 and of the promises 29 to 31: a test for each sentence
 * of the document that names one.
 */
public final class UndoEdgeTest {
    private static final int NOON = 14135805;

    public static void main(String[] args) {
        callsThatAreChanges();
        callsThatAreNone();
        changesThatAlterNothing();
        textWithAnError();
        latestEight();
        changesBehindUndo();
        everythingAsItWas();
        notWhatIsNotPartOfIt();
        nothingToUndo();
        slotsThatExist();
        emptySlots();
        inPlaceOfWhatWasThere();
        saveIsNoChange();
        slotKeepsIt();
        Check.end("UndoEdgeTest");
    }

    /** A receiver with frames, a told minute and fixes, between two marks of a minute. */
    private static RadioClock busy() {
        RadioClock x = Check.atSecondZero();
        x.set(1, 2);
        for (int i = 0; i < 4; i++) {
            FixTest.minute(x, Check.with(Check.bits(x, NOON + i, false), 50, i == 1 ? 2 : 0), i);
        }
        x.pulse(x.count(11) + 3000, 200);
        x.pulse(x.count(11) + 400, 200);
        return x;
    }

    private static List<Runnable> changesOf(RadioClock x) {
        List<Runnable> changes = new ArrayList<>();
        changes.add(() -> Check.load(x, "mend 3;"));
        changes.add(() -> x.pulse(x.count(11) + 1000, 100));
        changes.add(() -> x.hear(NOON, false, 0));
        changes.add(() -> x.set(0, 50));
        changes.add(() -> x.set(1, 3));
        changes.add(() -> x.set(2, 3));
        changes.add(() -> x.set(3, 2));
        changes.add(() -> x.set(4, -7));
        changes.add(x::discipline);
        changes.add(x::forget);
        changes.add(() -> x.restore(0));
        return changes;
    }

    private static void callsThatAreChanges() {
        Check.sentence("The changes are all calls of load, pulse, hear, set, discipline, forget and restore that succeed");
        int number = changesOf(new RadioClock()).size();
        for (int i = 0; i < number; i++) {
            RadioClock x = busy();
            x.save(0);
            x.set(4, 3);
            undoAll(x);
            x.restore(0);
            x.set(4, 5);
            String before = Check.state(x);
            changesOf(x).get(i).run();
            Check.that("change " + i + " alters something", Check.state(x).equals(before), false);
            Check.that("it can be undone", x.undo(), 2);
            Check.that("as before change " + i, Check.state(x), before);
        }
    }

    private static void undoAll(RadioClock x) {
        while (!Check.answer(x::undo).startsWith("throws")) {
            continue;
        }
    }

    private static void callsThatAreNone() {
        Check.sentence("The changes are all calls of ..: other calls are none");
        RadioClock x = busy();
        undoAll(x);
        String before = Check.state(x);
        x.append(1, 2, 3, 4, 5);
        x.errorPosition();
        x.count(0);
        x.part(0, 0);
        x.number(2000, 1, 1, 0, 0);
        x.code(0, true);
        x.votes(NOON);
        Check.answer(x::favourite);
        Check.answer(() -> x.frame(0, 2));
        Check.answer(() -> x.block(0, 0));
        x.assembled();
        Check.answer(x::dissenting);
        x.weakest();
        Check.answer(() -> x.clock(2000000000));
        Check.answer(x::deviation);
        Check.answer(x::estimate);
        x.writeTime(NOON);
        x.writtenByte(0);
        x.save(0);
        x.save(1);
        Check.that("nothing is altered", Check.state(x), before);
        Check.fails("no change", Check.STATE, x::undo);
    }

    private static void changesThatAlterNothing() {
        Check.sentence("all calls that succeed, also those by which nothing becomes another");
        RadioClock x = new RadioClock();
        x.save(0);
        String before = Check.state(x);
        x.set(0, 100);
        x.forget();
        x.restore(0);
        x.load(0);
        x.hear(5, false, -1L);
        Check.that("nothing is altered", Check.state(x), before);
        for (int left = 4; left >= 0; left--) {
            Check.that("undo", x.undo(), left);
        }
        Check.fails("no more", Check.STATE, x::undo);
        RadioClock y = busy();
        undoAll(y);
        Check.that("an ignored pulse", y.pulse(y.count(11) + 900, 29), 0);
        Check.that("is a change", y.undo(), 0);
    }

    private static void textWithAnError() {
        Check.sentence("(a text with an error is no change)");
        RadioClock x = new RadioClock();
        x.set(4, 3);
        Check.that("syntax", Check.load(x, "mend 1;hear 5;x"), -2);
        Check.that("value", Check.load(x, "mend 1;hear 5;mend 4;"), -3);
        Check.that("a minute that is too late", Check.load(x, "pulse 2000000000 100;hear 5;"), -3);
        Check.that("the drift", x.count(10), 3);
        Check.that("undo of set", x.undo(), 0);
        Check.that("the drift", x.count(10), 0);
    }

    private static void latestEight() {
        Check.sentence("The latest 8 changes can be undone, older ones cannot any more");
        for (int changes = 0; changes <= 18; changes++) {
            RadioClock x = new RadioClock();
            for (int i = 1; i <= changes; i++) {
                x.set(4, i);
            }
            int kept = Math.min(8, changes);
            for (int i = 1; i <= kept; i++) {
                Check.that("undo " + i + " of " + changes + " changes", x.undo(), kept - i);
                Check.that("the drift", x.count(10), changes - i);
            }
            Check.fails("undo behind " + changes + " changes", Check.STATE, x::undo);
            Check.that("the drift stays", x.count(10), changes - kept);
        }
    }

    private static void changesBehindUndo() {
        Check.sentence("Undoes the latest change that has not been undone.");
        RadioClock x = new RadioClock();
        for (int i = 1; i <= 9; i++) {
            x.set(4, i);
        }
        Check.that("undo 9", x.undo(), 7);
        Check.that("undo 8", x.undo(), 6);
        x.set(4, 20);
        Check.that("undo 20", x.undo(), 6);
        Check.that("the drift", x.count(10), 7);
        x.set(4, 21);
        x.set(4, 22);
        x.set(4, 23);
        // The changes 2 to 7 and 21 to 23 have not been undone; the latest eight of them are 3 to 7 and 21 to 23.
        int[] due = {22, 21, 7, 6, 5, 4, 3, 2};
        for (int i = 0; i < 8; i++) {
            Check.that("undo", x.undo(), 7 - i);
            Check.that("the drift", x.count(10), due[i]);
        }
        Check.fails("no more", Check.STATE, x::undo);
        x.set(4, 99);
        Check.that("one change", x.undo(), 0);
        Check.that("the drift", x.count(10), 2);
    }

    private static void everythingAsItWas() {
        Check.sentence("undoing a change brings back everything as it was before it");
        RadioClock x = busy();
        undoAll(x);
        List<String> states = new ArrayList<>();
        RadioClock y = busy();
        y.set(2, 8);
        for (int i = 4; i < 12; i++) {
            states.add(Check.state(y));
            y.hear(NOON + i, true, i % 3 == 0 ? 1L << 25 : 0);
        }
        for (int left = 7; left >= 0; left--) {
            Check.that("undo", y.undo(), left);
            Check.that("as it was", Check.state(y), states.get(left));
        }
        Check.that("pulses that were ignored", ignoredBehindUndo(), 1);
        // The time of the pulse before, and the length of the minute.
        RadioClock z = Check.atSecondZero();
        z.pulse(2700, 29);
        z.undo();
        Check.that("an earlier pulse", z.pulse(2600, 29), 0);
        RadioClock w = Check.atSecondZero();
        w.set(1, 2);
        Check.minute(w, Check.bits(w, 57, true), 0);
        Check.minute(w, Check.bits(w, 58, true), 0);
        w.forget();
        w.undo();
        Check.that("the length of the minute", w.count(4), 61);
        w.undo();
        Check.that("the length of the minute before", w.count(4), 60);
    }

    private static int ignoredBehindUndo() {
        RadioClock x = new RadioClock();
        x.pulse(5, 5);
        x.pulse(6, 6);
        x.undo();
        return x.count(13);
    }

    private static void notWhatIsNotPartOfIt() {
        Check.sentence("but not the text buffer, the position of the error, the written text and the slots");
        RadioClock x = new RadioClock();
        x.set(4, 1);
        x.set(4, 2);
        Check.append(x, Check.bytes("mend 1;"));
        x.undo();
        Check.that("the text buffer stays", x.load(7), 0);
        x.undo();
        Check.that("undo of load brings no text back", x.append(0, 0, 0, 0, 0), 20);
        x.load(20);
        Check.that("an error", x.errorPosition(), 0);
        x.writeTime(NOON);
        x.save(0);
        x.undo();
        Check.that("the drift", x.count(10), 0);
        Check.that("the position of the error stays", x.errorPosition(), 0);
        Check.that("the written text stays", Check.written(x, 18), "2026-11-16 12:45 1");
        Check.that("the slot stays", x.restore(0), 0);
        Check.that("with its drift", x.count(10), 1);
        Check.load(x, "mend 1;");
        x.undo();
        Check.that("undo of load brings no error back", x.errorPosition(), -1);
    }

    private static void nothingToUndo() {
        Check.sentence("IllegalStateException if there is no change to undo");
        RadioClock x = new RadioClock();
        Check.fails("a new object", Check.STATE, x::undo);
        x.set(4, 1);
        Check.that("one change", x.undo(), 0);
        for (int i = 0; i < 3; i++) {
            Check.fails("none is left", Check.STATE, x::undo);
        }
        Check.that("nothing changed", Check.state(x), Check.state(new RadioClock()));
        x.set(4, 1);
        Check.that("one change again", x.undo(), 0);
    }

    private static void slotsThatExist() {
        Check.sentence("slot: 0 or 1; IndexOutOfBoundsException if there is no such slot");
        RadioClock x = new RadioClock();
        for (int slot : new int[] {-1, 2, Integer.MIN_VALUE, Integer.MAX_VALUE}) {
            Check.fails("save(" + slot + ")", Check.INDEX, () -> x.save(slot));
            Check.fails("restore(" + slot + ")", Check.INDEX, () -> x.restore(slot));
        }
        Check.that("save(0)", x.save(0), 0);
        Check.that("save(1)", x.save(1), 0);
        Check.that("restore(0)", x.restore(0), 0);
        Check.that("restore(1)", x.restore(1), 0);
    }

    private static void emptySlots() {
        Check.sentence("IllegalStateException if nothing was saved there");
        for (int slot = 0; slot <= 1; slot++) {
            int other = 1 - slot;
            RadioClock x = new RadioClock();
            Check.fails("an empty slot", Check.STATE, () -> x.restore(other));
            x.save(slot);
            Check.fails("the other slot", Check.STATE, () -> x.restore(other));
            Check.fails("refused calls are no changes", Check.STATE, x::undo);
            Check.that("that one", x.restore(slot), 0);
        }
    }

    private static void inPlaceOfWhatWasThere() {
        Check.sentence("Saves everything that undo would bring back in a slot, in place of what was there.");
        RadioClock x = busy();
        String first = Check.state(x);
        Check.that("frames", x.save(0), 4);
        x.forget();
        x.set(3, 3);
        String second = Check.state(x);
        Check.that("frames", x.save(1), 0);
        x.restore(0);
        Check.that("the first one", Check.state(x), first);
        x.restore(1);
        Check.that("the second one", Check.state(x), second);
        Check.that("in place of the first one", x.save(0), 0);
        x.set(3, 1);
        x.restore(0);
        Check.that("the second one", Check.state(x), second);
        x.hear(5, false, 0);
        Check.that("the slot is not the present one", x.restore(0), 0);
        Check.that("the second one", Check.state(x), second);
    }

    private static void saveIsNoChange() {
        Check.sentence("This is no change.");
        RadioClock x = new RadioClock();
        x.save(0);
        Check.fails("nothing to undo", Check.STATE, x::undo);
        x.set(4, 1);
        x.save(0);
        x.save(1);
        Check.that("undo of set", x.undo(), 0);
        Check.that("the drift", x.count(10), 0);
        x.restore(1);
        Check.that("undo leaves the slot", x.count(10), 1);
    }

    private static void slotKeepsIt() {
        Check.sentence("Brings back what was saved in a slot, which keeps it. Returns the number of frames that are kept.");
        RadioClock x = busy();
        String saved = Check.state(x);
        x.save(1);
        for (int i = 0; i < 3; i++) {
            x.hear(NOON, true, 1L << 20 + i);
            x.set(2, 8 - i);
            Check.that("restore", x.restore(1), 4);
            Check.that("what was saved", Check.state(x), saved);
            x.undo();
            Check.that("undo of restore", x.count(8), 8 - i);
            x.restore(1);
        }
        Check.that("changes", x.undo(), 7);
        Check.load(x, "mend 2;");
        Check.that("load leaves it", x.restore(1), 4);
        Check.that("what was saved", Check.state(x), saved);
    }
}
