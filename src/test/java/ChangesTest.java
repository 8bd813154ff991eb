/** Promises 41 to 54: changes, undo, saving. */
public final class ChangesTest {
    private static final int LEAST = Integer.MIN_VALUE;
    private static final int MOST = Integer.MAX_VALUE;

    public static void main(String[] args) {
        correct();
        wrongCorrections();
        lastNumber();
        noRoom();
        cancel();
        repeat();
        whole();
        tick();
        ticksAreAlikeInOne();
        roomAtTheTime();
        gaps();
        delays();
        periods();
        fetch();
        undoOfEachChange();
        undoable();
        saving();
        savedStateStandsAlone();
        rowsAreUsedAgain();
        withoutText();
        Check.end();
    }

    private static void correct() {
        Check x = Check.loaded("promise 41", "radio 0;stop 1 1 1 2;hears 0;hears 3");
        x.due(1, "correct", 0, 29, 6, 1438, 1439, 20);
        x.due(2, "correct", 11, 0, 0, 0, 1, 1);
        int[] told = {29, 6, 1438, 1439, 1};
        for (int what = 0; what < 5; what++) {
            x.due(told[what], "stop", -1, 0, what);
        }
        x.due(2, "count", 0);
        x.due(2, "count", 5);
        x.due(1, "stop", 0, 0, 0);
        x.due(2, "undoable");
        x.due(0, "tick", 1);
        x.due(0, "stop", 0, 11, 0);
        x.due(-1, "stop", 1, 11, 0);
        x.due(1, "tick", 19);
        x.due(29, "stop", 0, 0, 0);
        x.due(1, "stop", 0, 0, 4);
        x.due(1, "stop", 1, 0, 0);
        x.due(2, "tick", 3);
        x.due(29, "stop", 1, 0, 0);
    }

    private static void wrongCorrections() {
        Check x = Check.loaded("promise 41: wrong numbers", "radio 0;hears 0");
        x.refused(Check.INDEX, "correct", -1, 99, 0, 0, 1, 1);
        x.refused(Check.INDEX, "correct", 12, 0, 0, 0, 1, 0);
        int[][] wrong = {{-1, 0, 0, 1, 1}, {30, 0, 0, 1, 1}, {0, -1, 0, 1, 1}, {0, 7, 0, 1, 1},
            {0, 0, -1, 1, 1}, {0, 0, 1439, 1440, 1}, {0, 0, 5, 5, 1}, {0, 0, 5, 4, 1},
            {0, 0, 0, 1440, 1}, {0, 0, MOST, LEAST, 1}, {0, 0, 0, 1, 0}, {0, 0, 0, 1, 21},
            {0, 0, 0, 1, LEAST}, {0, 0, 0, 1, MOST}};
        for (int[] w : wrong) {
            x.refused(Check.ARGUMENT, "correct", 0, w[0], w[1], w[2], w[3], w[4]);
        }
        x.refused(Check.INDEX, "cancel", -1, 0);
        x.refused(Check.INDEX, "cancel", 12, 1);
        x.refused(Check.ARGUMENT, "cancel", 0, 0);
        x.refused(Check.ARGUMENT, "cancel", 0, 21);
        x.refused(Check.ARGUMENT, "whole", 0);
        x.refused(Check.ARGUMENT, "whole", 21);
        x.refused(Check.ARGUMENT, "repeat", 1, 1);
    }

    private static void lastNumber() {
        Check x = Check.loaded("promises 41 and 42: 99 corrections", "radio 0;hears 0");
        for (int n = 1; n <= 99; n++) {
            x.due(n, "correct", n % 12, n % 30, 0, n, n + 1, 1);
            x.due(1, "tick", 1);
        }
        x.refused(Check.ARGUMENT, "correct", 0, 0, 0, 0, 1, 1);
        x.refused(Check.ARGUMENT, "cancel", 0, 1);
        x.due(99, "whole", 1);
        x.due(3, "repeat", 99, 1);
        x.due(99, "listener", 0, 5);
        x.due(1, "hasHeard", 0, 99);
        x.due(9, "number", 99, 1);
        x.due(99, "stop", 0, 3, 4);
    }

    private static void noRoom() {
        Check x = Check.loaded("promises 41 to 44: no room", "radio 0;hears 0;hears 1");
        x.due(1, "cancel", 0, 1);
        for (int i = 1; i < 30; i++) {
            x.due(0, "repeat", 1, 2);
        }
        x.refused(Check.ARGUMENT, "correct", 0, 0, 0, 0, 1, 1);
        x.refused(Check.ARGUMENT, "cancel", 0, 1);
        x.refused(Check.ARGUMENT, "repeat", 1, 1);
        x.refused(Check.ARGUMENT, "whole", 1);
        // At 1 the first listener has heard the first one, at 2 both have.
        x.due(2, "tick", 1);
        x.refused(Check.ARGUMENT, "cancel", 0, 1);
        x.due(2, "tick", 1);
        x.due(2, "cancel", 0, 1);
        x.refused(Check.ARGUMENT, "cancel", 0, 1);
    }

    private static void cancel() {
        Check x = Check.loaded("promise 42", "radio 0;stop 1 1 1 2;hears 0");
        x.due(1, "cancel", 0, 1);
        x.due(2, "cancel", 5, 20);
        x.due(-1, "stop", -1, 0, 0);
        x.due(1, "stop", -1, 0, 4);
        x.due(2, "stop", -1, 5, 4);
        x.due(0, "count", 0);
        x.due(1, "stop", 0, 0, 0);
        x.due(1, "tick", 1);
        x.due(-1, "stop", 0, 0, 0);
        x.due(1, "stop", 0, 0, 4);
    }

    private static void repeat() {
        Check x = Check.loaded("promise 43", "radio 0;hears 0;hears 0 off 1 1");
        x.due(1, "correct", 4, 7, 1, 1, 9, 1);
        x.due(1, "tick", 1);
        x.due(2, "correct", 4, 8, 1, 1, 9, 20);
        x.due(4, "repeat", 1, 2);
        x.due(8, "stop", -1, 4, 0);
        x.due(2, "stop", -1, 4, 4);
        x.due(2, "count", 4);
        x.due(2, "count", 5);
        x.due(0, "tick", 2);
        // Listener 0 had it and drops it, listener 1 hears it for the first time.
        x.due(1, "listener", 0, 7);
        x.due(0, "listener", 1, 7);
        x.due(7, "stop", 1, 4, 0);
        x.due(1, "stop", 1, 4, 4);
        x.refused(Check.ARGUMENT, "repeat", 0, 1);
        x.refused(Check.ARGUMENT, "repeat", 3, 1);
        x.refused(Check.ARGUMENT, "repeat", LEAST, 1);
        x.refused(Check.ARGUMENT, "repeat", MOST, 1);
        x.refused(Check.ARGUMENT, "repeat", 1, 0);
        x.refused(Check.ARGUMENT, "repeat", 1, 21);
    }

    private static void whole() {
        Check x = Check.loaded("promise 44", "radio 0;stop 1 1 1 2;hears 0");
        x.due(0, "whole", 20);
        x.due(1, "correct", 0, 5, 1, 1, 9, 20);
        x.due(1, "whole", 3);
        x.due(2, "correct", 0, 6, 1, 1, 9, 20);
        x.due(0, "tick", 3);
        // The whole list tells what was published when it went on the air.
        x.due(5, "stop", 0, 0, 0);
        x.due(1, "stop", 0, 0, 4);
        x.due(1, "listener", 0, 3);
        x.due(1, "listener", 0, 4);
        x.due(0, "listener", 0, 5);
        x.due(1, "tick", 17);
        x.due(2, "listener", 0, 8);
        x.due(1, "listener", 0, 3);
        x.due(1, "listener", 0, 7);
        x.due(2, "stop", 0, 0, 4);
    }

    private static void tick() {
        Check x = Check.loaded("promise 45", "radio 0;stop 1 1 1 2;hears 0;hears 1;hears 2");
        x.refused(Check.ARGUMENT, "tick", 0);
        x.refused(Check.ARGUMENT, "tick", -1);
        x.refused(Check.ARGUMENT, "tick", 61);
        x.refused(Check.ARGUMENT, "tick", LEAST);
        x.refused(Check.ARGUMENT, "tick", MOST);
        x.due(1, "cancel", 0, 1);
        x.due(1, "tick", 1);
        x.due(2, "tick", 1);
        x.due(3, "tick", 1);
        for (int i = 0; i < 166; i++) {
            x.due(3, "tick", 60);
        }
        x.due(9963, "count", 3);
        x.refused(Check.ARGUMENT, "tick", 37);
        x.due(3, "tick", 36);
        x.due(9999, "count", 3);
        x.refused(Check.ARGUMENT, "tick", 1);
        x.due(2, "cancel", 0, 1);
        x.due(0, "onAir", 0, 1);
    }

    private static void ticksAreAlikeInOne() {
        Check one = Check.loaded("promise 45: in one", "radio 4;stop 1 1 1 2;hears 9;hears 2 off 9 30");
        Check many = Check.loaded("promise 45: one by one", "radio 4;stop 1 1 1 2;hears 9;hears 2 off 9 30");
        for (Check x : new Check[] {one, many}) {
            x.due(1, "cancel", 0, 9);
            x.due(2, "correct", 0, 1, 1, 1, 3, 5);
            x.due(0, "repeat", 1, 20);
        }
        one.answer("tick", 33);
        for (int i = 0; i < 33; i++) {
            many.answer("tick", 1);
        }
        if (!one.state().equals(many.state())) {
            Check.tell("promise 45: 33 ticks are not 33 times one tick");
        }
        one.due(8, "count", 7);
    }

    private static void roomAtTheTime() {
        Check x = Check.loaded("promise 45: left out", "radio 3;hears 0");
        for (int i = 0; i < 30; i++) {
            x.due(0, "whole", 3);
        }
        // At 3 all 30 are still on the air when the next one would go on it.
        x.due(1, "tick", 3);
        x.due(1, "count", 8);
        x.due(30, "count", 7);
        x.due(0, "count", 6);
        x.due(30, "listener", 0, 8);
    }

    private static void gaps() {
        Check x = Check.loaded("promises 46 and 47", "radio 0;hears 0 off 1 2;hears 0");
        x.due(2, "addGap", 0, 0, 9999);
        x.due(3, "addGap", 0, 9999, 9999);
        x.due(4, "addGap", 0, 7, 7);
        x.refused(Check.ARGUMENT, "addGap", 0, 1, 1);
        x.refused(Check.ARGUMENT, "addGap", 1, -1, 1);
        x.refused(Check.ARGUMENT, "addGap", 1, 10000, 10000);
        x.refused(Check.ARGUMENT, "addGap", 1, 5, 4);
        x.refused(Check.ARGUMENT, "addGap", 1, 5, 10000);
        x.refused(Check.INDEX, "addGap", 2, -1, 0);
        x.refused(Check.INDEX, "addGap", -1, 0, 0);
        x.refused(Check.INDEX, "dropGap", 0, 4);
        x.refused(Check.INDEX, "dropGap", 0, -1);
        x.refused(Check.INDEX, "dropGap", 1, 0);
        x.refused(Check.INDEX, "dropGap", 2, 0);
        x.refused(Check.INDEX, "dropGap", -1, LEAST);
        x.refused(Check.INDEX, "dropGap", -1, 0);
        x.refused(Check.INDEX, "dropGap", 6, 0);
        x.due(1, "listener", 0, 2);
        x.due(3, "dropGap", 0, 1);
        x.due(0, "listener", 0, 2);
        int[] times = {1, 2, 9999, 9999, 7, 7, -1, -1};
        for (int i = 0; i < times.length; i++) {
            x.due(times[i], "gap", 0, i / 2, i % 2);
        }
        x.due(2, "dropGap", 0, 2);
        x.due(1, "dropGap", 0, 0);
        x.due(9999, "gap", 0, 0, 0);
        x.due(0, "dropGap", 0, 0);
        x.due(0, "listener", 0, 1);
        heardInGaps();
    }

    private static void heardInGaps() {
        Check x = Check.loaded("section 3: gaps", "radio 0;hears 0");
        x.due(1, "addGap", 0, 3, 4);
        x.due(2, "addGap", 0, 4, 5);
        for (int n = 1; n <= 6; n++) {
            x.due(n, "cancel", n, n + 1);
        }
        x.due(1, "tick", 7);
        int[] heard = {0, 1, 0, 0, 0, 1, 1};
        for (int n = 1; n <= 6; n++) {
            x.due(heard[n], "hasHeard", 0, n);
        }
        x.due(3, "listener", 0, 11);
        x.due(3, "count", 11);
    }

    private static void delays() {
        Check x = Check.loaded("promise 48", "radio 0;hears 4;hears 0");
        x.due(1, "cancel", 0, 3);
        x.due(4, "setDelay", 0, 9);
        x.due(9, "setDelay", 0, 0);
        x.due(0, "setDelay", 0, 1);
        x.due(2, "cancel", 0, 3);
        x.due(7, "heardIn", 0, 1);
        x.due(4, "heardIn", 0, 2);
        x.due(3, "heardIn", 1, 1);
        x.due(1, "listener", 0, 0);
        x.due(0, "listener", 1, 0);
        x.refused(Check.INDEX, "setDelay", 2, 10);
        x.refused(Check.INDEX, "setDelay", -1, 0);
        x.refused(Check.ARGUMENT, "setDelay", 0, 10);
        x.refused(Check.ARGUMENT, "setDelay", 0, -1);
    }

    private static void periods() {
        Check x = Check.loaded("promise 49", "radio 7;hears 0");
        x.due(7, "setPeriod", 99);
        x.due(99, "setPeriod", 0);
        x.due(1, "tick", 60);
        x.due(0, "count", 7);
        x.due(0, "setPeriod", 61);
        x.due(61, "count", 2);
        x.due(1, "tick", 1);
        x.due(1, "count", 7);
        x.due(5, "onAir", 0, 3);
        x.due(61, "onAir", 0, 2);
        x.refused(Check.ARGUMENT, "setPeriod", 100);
        x.refused(Check.ARGUMENT, "setPeriod", -1);
    }

    private static void fetch() {
        Check x = Check.loaded("promise 50", "radio 0;stop 1 1 1 2;hears 0;hears 9");
        x.due(1, "correct", 11, 7, 1, 1, 9, 4);
        x.due(2, "cancel", 0, 5);
        x.due(3, "cancel", 3, 6);
        x.due((1 << 11) + 1, "fetch", 0);
        x.due(1, "listener", 0, 10);
        x.due(1, "stop", 0, 11, 4);
        x.due(2, "stop", 0, 0, 4);
        x.due(3, "stop", 0, 3, 4);
        x.due(3, "listener", 0, 3);
        x.due(0, "listener", 0, 4);
        x.due(0, "listener", 0, 8);
        x.due(0, "listener", 0, 5);
        x.due(3, "behind", 0);
        x.due(0, "fetch", 0);
        x.due(5, "undoable");
        // What it hears of these now is dropped.
        x.due(1, "tick", 6);
        x.due(3, "listener", 0, 7);
        x.due(3, "listener", 0, 5);
        x.due((1 << 11) + 1, "fetch", 1);
        x.refused(Check.INDEX, "fetch", 2);
        x.refused(Check.INDEX, "fetch", -1);
        baseStays();
    }

    private static void baseStays() {
        Check x = Check.loaded("promise 50: the base", "radio 0;stop 1 1 1 2;hears 0");
        x.due(1, "correct", 1, 7, 1, 1, 9, 20);
        x.due(1, "whole", 1);
        x.due(1, "tick", 1);
        x.due(1, "listener", 0, 3);
        x.due(0, "fetch", 0);
        x.due(1, "listener", 0, 3);
        x.due(1, "listener", 0, 8);
    }

    /** Does a change and undoes it; all must be as it was. */
    private static void undone(Check x, String name, int... args) {
        String before = x.state();
        x.answer(name, args);
        if (before.equals(x.state())) {
            Check.tell("promise 51: " + name + " changed nothing");
        }
        x.due(2, "undo");
        if (!before.equals(x.state())) {
            Check.tell("promise 51: undo of " + name + " left a difference");
        }
    }

    private static void undoOfEachChange() {
        Check x = Check.loaded("promise 51", "radio 3;stop 1 1 1 2;hears 0 off 2 2;hears 3");
        x.due(1, "cancel", 0, 2);
        x.due(0, "tick", 1);
        undone(x, "correct", 4, 1, 1, 1, 2, 3);
        undone(x, "cancel", 4, 1);
        undone(x, "repeat", 1, 1);
        undone(x, "whole", 1);
        undone(x, "tick", 60);
        undone(x, "addGap", 1, 3, 5);
        undone(x, "dropGap", 0, 0);
        undone(x, "setDelay", 1, 2);
        undone(x, "setPeriod", 9);
        undone(x, "fetch", 0);
        x.put("radio");
        x.due(Check.ARGUMENT, "load", 4);
        x.put("radio");
        x.due(1, "undo");
        x.due(20, "buffered");
        x.due(1, "parseError");
        x.due(0, "errorPosition");
        x.due(0, "undo");
        x.due(0, "count", 4);
        x.due(0, "count", 3);
        x.due(1, "stop", -1, 0, 0);
        x.due(Check.STATE, "undo");
        x.due(1, "correct", 5, 1, 1, 1, 2, 3);
        x.due(5, "number", 1, 0);
        x.due(0, "number", 1, 3);
        numberGivenAgain();
        countsComeBack();
    }

    private static void numberGivenAgain() {
        Check x = Check.loaded("promise 51: a number again", "radio 0;hears 0");
        x.due(1, "cancel", 0, 1);
        x.due(1, "tick", 1);
        x.due(1, "number", 1, 3);
        x.due(1, "undo");
        x.due(0, "undo");
        x.due(1, "cancel", 0, 1);
        x.due(0, "number", 1, 3);
        x.due(0, "hasHeard", 0, 1);
        Check y = Check.loaded("promise 54: a number again", "radio 0;hears 0");
        y.due(0, "save", 0);
        y.due(1, "cancel", 0, 1);
        y.due(1, "tick", 1);
        y.due(0, "restore", 0);
        y.due(1, "cancel", 0, 1);
        y.due(0, "number", 1, 3);
        y.due(0, "hasHeard", 0, 1);
        Check z = Check.loaded("promise 51: a shorter one", "radio 0;hears 0");
        z.due(0, "whole", 20);
        z.due(0, "undo");
        z.due(0, "whole", 1);
        z.due(1, "tick", 1);
        z.due(0, "count", 6);
    }

    /** What was dropped, left out, not heard and so on is as before again, too. */
    private static void countsComeBack() {
        Check x = Check.loaded("promises 51 and 54: counts", "radio 3;hears 0;hears 1 off 1 4");
        x.due(1, "correct", 0, 1, 1, 1, 2, 2);
        x.due(2, "correct", 0, 2, 1, 1, 2, 1);
        for (int i = 0; i < 28; i++) {
            x.due(2, "whole", 20);
        }
        // At 3 and 6 there is room for a whole list, at 9 there is none.
        x.due(2, "tick", 9);
        String before = x.state();
        x.due(1, "count", 8);
        x.due(1, "count", 10);
        x.due(2, "count", 11);
        x.due(9, "save", 0);
        x.due(2, "whole", 4);
        x.due(2, "tick", 60);
        x.due(0, "repeat", 1, 1);
        x.due(2, "tick", 3);
        x.due(3, "count", 10);
        for (int i = 0; i < 4; i++) {
            x.answer("undo");
        }
        dueState(x, before);
        x.due(2, "tick", 60);
        x.due(9, "restore", 0);
        dueState(x, before);
    }

    private static void undoable() {
        Check x = Check.loaded("promise 52", "radio 0;hears 0");
        for (int i = 1; i <= 20; i++) {
            x.due(i - 1, "setPeriod", i);
            if (i < 20) {
                x.due(Math.min(i, 8), "undoable");
            }
        }
        x.due(0, "save", 0);
        x.due(8, "undoable");
        for (int i = 1; i <= 8; i++) {
            x.due(8 - i, "undo");
            x.due(20 - i, "count", 2);
            x.due(8 - i, "undoable");
        }
        x.due(Check.STATE, "undo");
        x.due(12, "count", 2);
        x.due(12, "setPeriod", 12);
        x.due(1, "undoable");
        x.due(0, "undo");
    }

    private static void saving() {
        Check x = Check.loaded("promises 53 and 54", "radio 5;stop 1 1 1 2;hears 3;hears 0 off 7 9");
        x.due(1, "cancel", 0, 9);
        x.due(0, "tick", 6);
        String first = x.state();
        x.due(6, "save", 1);
        x.due(Check.STATE, "restore", 0);
        x.due(2, "undoable");
        x.due(2, "correct", 0, 5, 5, 5, 6, 1);
        x.due(1, "tick", 4);
        x.due(10, "save", 0);
        String second = x.state();
        x.due(6, "restore", 1);
        x.due(0, "undoable");
        dueState(x, first);
        x.due(10, "restore", 0);
        dueState(x, second);
        x.due(6, "restore", 1);
        dueState(x, first);
        x.due(6, "save", 0);
        x.due(6, "restore", 0);
        dueState(x, first);
        x.refused(Check.INDEX, "save", 2);
        x.refused(Check.INDEX, "save", -1);
        x.refused(Check.INDEX, "restore", 2);
        x.refused(Check.INDEX, "restore", -1);
    }

    private static void dueState(Check x, String want) {
        if (!want.equals(x.state())) {
            Check.tell("promise 54: what was restored differs from what was saved");
        }
    }

    /** Numbers that are given once more behind an undo leave what was saved as it was. */
    private static void rowsAreUsedAgain() {
        Check x = Check.loaded("section 2: one ends, another begins", "radio 0;hears 9;hears 0");
        x.due(0, "whole", 20);
        x.due(2, "tick", 29);
        x.due(0, "count", 6);
        x.due(9, "setDelay", 0, 0);
        x.due(1, "cancel", 0, 1);
        x.due(2, "tick", 1);
        x.due(0, "count", 5);
        x.due(Check.INDEX, "onAir", 0, 0);
    }

    private static void savedStateStandsAlone() {
        Check x = Check.loaded("promise 54: stands alone", "radio 0;hears 0");
        x.due(1, "correct", 2, 5, 5, 5, 6, 9);
        x.due(1, "whole", 3);
        x.due(0, "save", 0);
        String state = x.state();
        x.due(1, "undo");
        x.due(0, "undo");
        x.due(1, "tick", 1);
        x.due(1, "correct", 3, 9, 5, 5, 6, 9);
        x.due(1, "number", 1, 2);
        x.due(1, "whole", 3);
        x.due(1, "tick", 3);
        x.due(4, "undoable");
        x.due(0, "restore", 0);
        dueState(x, state);
        x.due(1, "tick", 3);
        x.due(5, "stop", 0, 2, 0);
        x.due(-1, "stop", 0, 3, 0);
    }

    private static void withoutText() {
        Check x = new Check("promises 41 to 54: no text");
        x.due(Check.STATE, "correct", 99, 99, 9, 0, 0, 0);
        x.due(Check.STATE, "cancel", 99, 0);
        x.due(Check.STATE, "repeat", 0, 0);
        x.due(Check.STATE, "whole", 0);
        x.due(Check.STATE, "tick", 0);
        x.due(Check.STATE, "addGap", 9, 2, 1);
        x.due(Check.STATE, "dropGap", 9, 9);
        x.due(Check.STATE, "setDelay", 9, 99);
        x.due(Check.STATE, "setPeriod", 999);
        x.due(Check.STATE, "fetch", 9);
        x.due(Check.STATE, "undo");
        x.due(0, "undoable");
        x.due(Check.STATE, "save", 9);
        x.due(Check.INDEX, "restore", 9);
        x.due(Check.STATE, "restore", 1);
    }
}
