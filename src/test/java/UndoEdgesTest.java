import java.util.ArrayList;
import java.util.List;

/** Section 7 at its bounds: what can be undone, what is saved, and the text that stays. */
public final class UndoEdgesTest {
    private static final String TEXT = "radio 4;stop 1 1 1 9;stop 2 2 2 9;hears 1 off 3 4;hears 0";

    /** Changes of every kind, each of which succeeds behind those ahead of it. */
    private static final Object[][] CHANGES = {
        {"correct", 3, 9, 2, 10, 20, 6}, {"cancel", 0, 2}, {"repeat", 1, 1}, {"whole", 3}, {"tick", 2},
        {"addGap", 1, 5, 6}, {"dropGap", 0, 0}, {"setDelay", 0, 4}, {"setPeriod", 3}, {"fetch", 1},
        {"cancel", 4, 20}, {"tick", 60}, {"correct", 11, 0, 6, 1438, 1439, 20}, {"tick", 1},
        {"whole", 20}, {"repeat", 4, 20}, {"tick", 9}, {"setPeriod", 0}, {"setDelay", 1, 9},
        {"fetch", 0}};

    public static void main(String[] args) {
        oldestGivesWay();
        aroundAndAround();
        changesWithoutADifference();
        refusedAreNoChanges();
        loadForgets();
        restoreForgets();
        changesBehindRestore();
        saveIsNoChange();
        twoSlots();
        whatIsNotSaved();
        timesOfSavedStates();
        undoLeavesTheInput();
        beforeTheFirstText();
        textStays();
        Check.end();
    }

    private static void change(Check x, int i) {
        Object[] change = CHANGES[i % CHANGES.length];
        int[] args = new int[change.length - 1];
        for (int a = 0; a < args.length; a++) {
            args[a] = (Integer) change[a + 1];
        }
        String answer = x.answer((String) change[0], args);
        if (answer.endsWith("Exception")) {
            Check.tell("section 7: change " + i + ", " + change[0] + ", answered " + answer);
        }
    }

    private static void dueState(Check x, String want, String what) {
        if (!x.state().equals(want)) {
            Check.tell("section 7: another state " + what);
        }
    }

    /** Of 1 to 20 changes the latest 8 are undone, to just the states ahead of them; no more. */
    private static void oldestGivesWay() {
        for (int changes = 0; changes <= CHANGES.length; changes++) {
            Check x = Check.loaded("section 7: " + changes + " changes", TEXT);
            List<String> states = new ArrayList<>();
            states.add(x.state());
            for (int i = 0; i < changes; i++) {
                change(x, i);
                states.add(x.state());
                x.due(Math.min(i + 1, 8), "undoable");
            }
            int kept = Math.min(changes, 8);
            for (int i = 1; i <= kept; i++) {
                x.due(kept - i, "undo");
                x.due(kept - i, "undoable");
                dueState(x, states.get(changes - i), "behind undo " + i + " of " + changes);
            }
            x.refused(Check.STATE, "undo");
            x.due(0, "undoable");
        }
    }

    /** Changes and undos in turn, the rows for them used again many times. */
    private static void aroundAndAround() {
        Check x = Check.loaded("section 7: around", "radio 0;hears 0");
        List<Integer> past = new ArrayList<>();
        int period = 0;
        for (int i = 1; i <= 200; i++) {
            if (i * 7 % 11 < 7 || past.isEmpty()) {
                past.add(period);
                x.due(period, "setPeriod", i % 100);
                period = i % 100;
                if (past.size() > 8) {
                    past.remove(0);
                }
            } else {
                period = past.remove(past.size() - 1);
                x.due(past.size(), "undo");
            }
            x.due(period, "count", 2);
            x.due(past.size(), "undoable");
        }
    }

    private static void changesWithoutADifference() {
        Check x = Check.loaded("section 7: nothing is different", "radio 7;hears 3");
        x.due(7, "setPeriod", 7);
        x.due(1, "undoable");
        x.due(3, "setDelay", 0, 3);
        x.due(2, "undoable");
        x.due(0, "fetch", 0);
        x.due(3, "undoable");
        x.due(2, "undo");
        x.due(1, "undo");
        x.due(0, "undo");
        x.due(Check.STATE, "undo");
        // Nine of them push out a change that made a difference.
        x.due(7, "setPeriod", 8);
        for (int i = 0; i < 8; i++) {
            x.due(0, "fetch", 0);
        }
        for (int i = 7; i >= 0; i--) {
            x.due(i, "undo");
        }
        x.due(Check.STATE, "undo");
        x.due(8, "count", 2);
        x.due(1, "cancel", 11, 1);
        x.due(1, "undoable");
    }

    private static void refusedAreNoChanges() {
        Check x = Check.loaded("section 7: refused", TEXT);
        for (int i = 0; i < 8; i++) {
            change(x, i);
        }
        Check untouched = Check.loaded("section 7: refused", TEXT);
        for (int i = 0; i < 8; i++) {
            change(untouched, i);
        }
        x.due(Check.ARGUMENT, "correct", 0, 30, 0, 0, 1, 1);
        x.due(Check.INDEX, "cancel", 12, 1);
        x.due(Check.ARGUMENT, "repeat", 0, 1);
        x.due(Check.ARGUMENT, "whole", 21);
        x.due(Check.ARGUMENT, "tick", 61);
        x.due(Check.ARGUMENT, "addGap", 0, 2, 1);
        x.due(Check.INDEX, "dropGap", 0, 4);
        x.due(Check.ARGUMENT, "setDelay", 0, 10);
        x.due(Check.ARGUMENT, "setPeriod", 100);
        x.due(Check.INDEX, "fetch", 2);
        x.due(Check.INDEX, "save", 2);
        x.due(Check.STATE, "restore", 0);
        x.due(8, "undoable");
        if (!x.past().equals(untouched.past())) {
            Check.tell("section 7: a refused call is undone, or pushed out a change");
        }
    }

    private static void loadForgets() {
        Check x = Check.loaded("section 7: load", TEXT);
        for (int i = 0; i < 9; i++) {
            change(x, i);
        }
        x.due(2, "save", 0);
        x.due(2, "save", 1);
        x.put(TEXT);
        x.due(Check.ARGUMENT, "load", TEXT.length() - 1);
        x.due(8, "undoable");
        x.due(7, "undo");
        x.due(2, "restore", 1);
        change(x, 0);
        x.put(TEXT);
        x.due(2, "load", TEXT.length());
        x.due(0, "undoable");
        x.due(Check.STATE, "undo");
        x.due(Check.STATE, "restore", 0);
        x.due(Check.STATE, "restore", 1);
        dueState(x, Check.loaded("section 7: load", TEXT).state(), "behind a load");
        change(x, 0);
        x.due(1, "undoable");
        x.due(0, "undo");
        dueState(x, Check.loaded("section 7: load", TEXT).state(), "ahead of the first change");
    }

    private static void restoreForgets() {
        Check x = Check.loaded("section 7: restore", TEXT);
        change(x, 0);
        x.due(0, "save", 1);
        for (int i = 1; i < 9; i++) {
            change(x, i);
        }
        x.due(Check.STATE, "restore", 0);
        x.due(Check.INDEX, "restore", 2);
        x.due(8, "undoable");
        x.due(0, "restore", 1);
        x.due(0, "undoable");
        x.due(Check.STATE, "undo");
        // It stays saved.
        x.due(0, "restore", 1);
        x.due(1, "count", 4);
    }

    /** Changes behind a restore lead back to it, and leave what is saved as it was. */
    private static void changesBehindRestore() {
        Check x = Check.loaded("section 7: behind a restore", TEXT);
        for (int i = 0; i < 5; i++) {
            change(x, i);
        }
        String saved = x.state();
        x.due(2, "save", 0);
        for (int round = 0; round < 3; round++) {
            for (int i = 5; i < 13 + round; i++) {
                change(x, i);
            }
            for (int i = 8; i > 0; i--) {
                x.due(i - 1, "undo");
            }
            if (round == 0) {
                dueState(x, saved, "behind 8 undos");
            }
            x.due(2, "restore", 0);
            dueState(x, saved, "behind a restore");
        }
    }

    private static void saveIsNoChange() {
        Check x = Check.loaded("promise 53", TEXT);
        for (int i = 0; i < 10; i++) {
            change(x, i);
        }
        String before = x.everything();
        x.due(2, "save", 0);
        x.due(2, "save", 1);
        x.due(8, "undoable");
        if (!before.equals(x.everything())) {
            Check.tell("promise 53: save changed something");
        }
        // An undo leaves what is saved.
        String saved = x.state();
        x.due(7, "undo");
        x.due(6, "undo");
        x.due(2, "restore", 0);
        dueState(x, saved, "that was saved ahead of an undo");
    }

    private static void twoSlots() {
        Check x = Check.loaded("promises 53 and 54", TEXT);
        List<String> states = new ArrayList<>();
        for (int i = 0; i < 4; i++) {
            change(x, i);
            states.add(x.state());
            x.due(0, "save", i % 2);
        }
        // In place of what was saved there: the third and the fourth are left.
        for (int i = 0; i < 6; i++) {
            x.due(0, "restore", i % 2);
            dueState(x, states.get(2 + i % 2), "in slot " + i % 2);
        }
        x.refused(Check.INDEX, "save", -1);
        x.refused(Check.INDEX, "save", 2);
        x.refused(Check.INDEX, "restore", -1);
        x.refused(Check.INDEX, "restore", 2);
    }

    /** The input buffer, the error and the text are as they were ahead of the restore. */
    private static void whatIsNotSaved() {
        Check x = Check.loaded("promise 53: not saved", TEXT);
        x.due(1, "writeMissing", 0);
        x.due(0, "save", 0);
        x.due(5, "writeDay", -1, 1);
        x.put("radio");
        x.due(Check.ARGUMENT, "load", 5);
        x.put("stop");
        x.due(0, "restore", 0);
        x.dueText("1@1-9");
        x.due(1, "parseError");
        x.due(5, "errorPosition");
        x.due(20, "buffered");
    }

    private static void timesOfSavedStates() {
        Check x = Check.loaded("promises 53 and 54: times", "radio 0;hears 0");
        x.due(0, "save", 0);
        for (int i = 0; i < 166; i++) {
            x.due(1, "tick", 60);
        }
        x.due(1, "tick", 39);
        x.due(9999, "save", 1);
        x.due(0, "restore", 0);
        x.due(0, "count", 3);
        x.due(1, "tick", 60);
        x.due(9999, "restore", 1);
        x.due(9999, "count", 3);
        x.refused(Check.ARGUMENT, "tick", 1);
    }

    private static void undoLeavesTheInput() {
        Check x = Check.loaded("promise 51: the input", TEXT);
        change(x, 0);
        x.due(5, "writeDay", -1, 1);
        x.put("radio 1;hears 10");
        x.due(Check.ARGUMENT, "load", 16);
        x.put("radio");
        change(x, 1);
        x.put("again");
        x.due(1, "undo");
        x.due(40, "buffered");
        x.due(2, "parseError");
        x.due(14, "errorPosition");
        x.dueText("1@1-9");
        x.due(0, "undo");
        x.due(40, "buffered");
        x.due(2, "parseError");
        x.due(14, "errorPosition");
        x.dueText("1@1-9");
    }

    private static void beforeTheFirstText() {
        Check x = new Check("promise 40: before the first text");
        int[] indices = {Integer.MIN_VALUE, -1, 0, 1, 255, Integer.MAX_VALUE};
        for (int i : indices) {
            x.refused(Check.INDEX, "textByte", i);
        }
        x.put(TEXT);
        x.due(2, "load", TEXT.length());
        x.due(Check.ARGUMENT, "writeDay", 0, 7);
        x.due(Check.INDEX, "writeMissing", 2);
        for (int i : indices) {
            x.refused(Check.INDEX, "textByte", i);
        }
        x.due(1, "writeDay", 0, 0);
        x.due(45, "textByte", 0);
        x.refused(Check.INDEX, "textByte", 1);
        x.refused(Check.INDEX, "textByte", -1);
    }

    /** Until the next text: behind load, undo, restore, and writings that are refused. */
    private static void textStays() {
        Check x = Check.loaded("section 7: the text", TEXT);
        x.due(5, "writeDay", -1, 2);
        x.dueText("2@2-9");
        x.due(1, "cancel", 1, 1);
        x.dueText("2@2-9");
        x.due(0, "undo");
        x.dueText("2@2-9");
        x.due(0, "save", 0);
        x.due(0, "restore", 0);
        x.dueText("2@2-9");
        x.due(Check.ARGUMENT, "writeDay", -1, 7);
        x.due(Check.ARGUMENT, "writeDay", -1, -1);
        x.due(Check.INDEX, "writeDay", 2, 2);
        x.due(Check.INDEX, "writeMissing", -1);
        x.dueText("2@2-9");
        x.put("radio 0;hears 0");
        x.due(Check.ARGUMENT, "load", 14);
        x.dueText("2@2-9");
        x.put("radio 0;hears 0");
        x.due(1, "load", 15);
        x.dueText("2@2-9");
        x.due(1, "writeDay", -1, 2);
        x.dueText("-");
        x.due(1, "writeMissing", 0);
        x.dueText("*");
    }
}
