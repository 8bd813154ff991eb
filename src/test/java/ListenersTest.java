/** Promises 17 to 25: listeners, what they heard and miss, and how their lists differ. */
public final class ListenersTest {
    private static final int LEAST = Integer.MIN_VALUE;
    private static final int MOST = Integer.MAX_VALUE;

    public static void main(String[] args) {
        listeners();
        orderOfHearing();
        wholeListsKeepNewer();
        same();
        wrongMinutes();
        worst();
        sixListeners();
        behind();
        overtakes();
        withoutText();
        Check.end();
    }

    private static void dueListener(Check x, int l, int... properties) {
        for (int what = 0; what < properties.length; what++) {
            x.due(properties[what], "listener", l, what);
        }
    }

    private static void listeners() {
        Check x = Check.loaded("promises 17 to 20",
                "radio 5;stop 1 0 0 10;hears 1 off 3 4 off 8 8;hears 0");
        dueListener(x, 0, 1, 2, 0, 0, 0, 0, 0, 0, 0, 0, 1, 0);
        x.due(1, "correct", 0, 2, 0, 0, 10, 1);
        x.due(2, "correct", 1, 3, 0, 0, 10, 2);
        x.due(3, "correct", 0, 4, 0, 0, 10, 3);
        x.due(4, "cancel", 5, 4);
        x.due(0, "listener", 0, 10);
        x.due(3, "listener", 0, 9);
        x.due(1, "tick", 5);
        dueListener(x, 0, 1, 2, 0, 0, 4, 2, 2, 0, 0, 3, 0, 2);
        dueListener(x, 1, 0, 0, 0, 0, 4, 4, 0, 0, 0, 0, 1, 0);
        heardAndMissing(x);
        x.due(0, "repeat", 1, 1);
        x.due(1, "tick", 3);
        dueListener(x, 0, 1, 2, 1, 0, 4, 2, 2, 1, 0, 3, 0, 2);
        dueListener(x, 1, 0, 0, 0, 0, 4, 4, 0, 1, 0, 0, 1, 0);
        // A whole list heard: what is missing below its number is missed no more, but not heard.
        x.due(2, "tick", 3);
        dueListener(x, 0, 1, 2, 0, 4, 4, 2, 0, 1, 1, 0, 1, 2);
        x.due(0, "hasHeard", 0, 2);
        x.due(-1, "missing", 0, 0);
        gaps(x);
        x.due(Check.INDEX, "listener", 2, 99);
        x.due(Check.INDEX, "listener", -1, 0);
        x.due(Check.ARGUMENT, "listener", 0, 12);
        x.due(Check.ARGUMENT, "listener", 0, -1);
    }

    private static void heardAndMissing(Check x) {
        int[] heard = {0, 1, 0, 0, 1, 0};
        for (int n = 0; n < heard.length; n++) {
            x.due(heard[n], "hasHeard", 0, n);
        }
        for (int n : new int[] {-1, 32, 33, 64, 65, 99, 100, LEAST, MOST}) {
            x.due(0, "hasHeard", 0, n);
        }
        x.due(Check.INDEX, "hasHeard", 2, 1);
        x.due(Check.INDEX, "hasHeard", -1, 1);
        x.due(2, "missing", 0, 0);
        x.due(3, "missing", 0, 1);
        for (int i : new int[] {2, -1, 99, LEAST, MOST}) {
            x.due(-1, "missing", 0, i);
        }
        x.due(-1, "missing", 1, 0);
        x.due(Check.INDEX, "missing", 2, 0);
        x.due(Check.INDEX, "missing", -1, 0);
    }

    private static void gaps(Check x) {
        x.due(3, "gap", 0, 0, 0);
        x.due(4, "gap", 0, 0, 1);
        x.due(8, "gap", 0, 1, 0);
        x.due(8, "gap", 0, 1, 1);
        x.due(-1, "gap", 0, 2, 0);
        x.due(-1, "gap", 0, -1, 1);
        x.due(-1, "gap", 0, MOST, 1);
        x.due(-1, "gap", 1, 0, 0);
        x.due(Check.INDEX, "gap", 2, 0, 5);
        x.due(Check.INDEX, "gap", -1, 0, 0);
        x.due(Check.ARGUMENT, "gap", 0, 9, 2);
        x.due(Check.ARGUMENT, "gap", 0, 0, -1);
    }

    private static void orderOfHearing() {
        Check x = Check.loaded("section 3: the order", "radio 0;hears 0");
        // All are heard at 4: 1, its whole list, 2 and 2 again, which alone is dropped.
        x.due(1, "correct", 0, 1, 0, 0, 9, 4);
        x.due(1, "whole", 4);
        x.due(2, "correct", 0, 2, 0, 0, 9, 4);
        x.due(0, "repeat", 2, 4);
        x.due(1, "tick", 4);
        dueListener(x, 0, 0, 0, 0, 1, 2, 2, 0, 1, 1, 0, 1, 0);
        Check y = Check.loaded("section 3: ahead of whole lists", "radio 0;hears 0");
        y.due(1, "correct", 0, 1, 0, 0, 9, 5);
        y.due(1, "whole", 4);
        y.due(0, "tick", 1);
        y.due(0, "repeat", 1, 3);
        // The correction went on the air behind the whole list of its number, but is heard first.
        y.due(1, "tick", 3);
        y.due(0, "listener", 0, 7);
        y.due(1, "tick", 1);
        y.due(1, "listener", 0, 7);
    }

    private static void wholeListsKeepNewer() {
        Check x = Check.loaded("section 3: whole lists", "radio 0;stop 1 0 0 9;hears 0");
        x.due(1, "correct", 1, 5, 0, 0, 9, 20);
        x.due(1, "whole", 6);
        x.due(2, "correct", 0, 7, 0, 0, 9, 1);
        x.due(0, "tick", 1);
        x.due(2, "stop", 0, 0, 4);
        x.due(1, "missing", 0, 0);
        // The whole list is from ahead of correction 2; it tells slot 1, and slot 0 stays.
        x.due(1, "tick", 5);
        x.due(7, "stop", 0, 0, 0);
        x.due(2, "stop", 0, 0, 4);
        x.due(5, "stop", 0, 1, 0);
        x.due(1, "stop", 0, 1, 4);
        x.due(-1, "missing", 0, 0);
        dueListener(x, 0, 0, 0, 0, 1, 2, 1, 0, 0, 1, 0, 1, 0);
    }

    private static void same() {
        Check x = Check.loaded("promise 21", "radio 0;stop 1 0 0 10;hears 0;hears 3;hears 9");
        x.due(1, "cancel", 0, 1);
        x.due(1, "tick", 1);
        int[][] pairs = {{-1, 0, 1}, {0, -1, 1}, {-1, 1, 0}, {1, 2, 1}, {0, 1, 0}, {2, 0, 0},
            {1, 1, 1}, {-1, -1, 1}};
        for (int[] pair : pairs) {
            x.due(pair[2], "isSame", pair[0], pair[1]);
        }
        // Told again as it was: the versions differ, the stops do not.
        x.due(2, "correct", 0, 1, 0, 0, 10, 5);
        x.due(1, "isSame", -1, 1);
        x.due(0, "isSame", 0, -1);
        x.due(3, "correct", 0, 1, 0, 0, 11, 5);
        x.due(0, "isSame", -1, 1);
        x.due(4, "correct", 0, 1, 0, 1, 10, 5);
        x.due(0, "isSame", -1, 1);
        x.due(5, "correct", 0, 1, 1, 0, 10, 5);
        x.due(0, "isSame", -1, 1);
        x.due(6, "correct", 0, 2, 0, 0, 10, 5);
        x.due(0, "isSame", -1, 1);
        x.due(Check.INDEX, "isSame", 3, 0);
        x.due(Check.INDEX, "isSame", 0, 3);
        x.due(Check.INDEX, "isSame", -2, 0);
        x.due(Check.INDEX, "isSame", 0, -2);
    }

    private static void wrongMinutes() {
        Check x = Check.loaded("promise 22",
                "radio 0;stop 1 0 0 100;stop 2 0 50 150;stop 3 1 0 10;hears 0;hears 5");
        x.due(0, "wrongMinutes", 0);
        x.due(1, "cancel", 0, 1);
        x.due(100, "wrongMinutes", 0);
        x.due(2, "correct", 2, 4, 1, 5, 15, 1);
        x.due(115, "wrongMinutes", 0);
        x.due(1, "tick", 1);
        x.due(0, "wrongMinutes", 0);
        x.due(115, "wrongMinutes", 1);
        // The same stop in another slot: the lists differ, where the bookmobile stands does not.
        x.due(3, "correct", 0, 2, 0, 50, 150, 20);
        x.due(4, "cancel", 1, 20);
        x.due(0, "wrongMinutes", 0);
        x.due(0, "isSame", -1, 0);
        x.due(115, "wrongMinutes", 1);
        x.due(Check.INDEX, "wrongMinutes", 2);
        x.due(Check.INDEX, "wrongMinutes", -1);
    }

    private static void worst() {
        Check x = Check.loaded("promise 23", "radio 0;stop 1 0 0 100;hears 5;hears 0;hears 9");
        x.due(0, "worst");
        x.due(1, "cancel", 0, 1);
        x.due(0, "worst");
        x.due(1, "tick", 1);
        x.due(0, "worst");
        x.due(2, "tick", 5);
        x.due(2, "worst");
        x.due(2, "correct", 0, 1, 0, 0, 99, 9);
        // Listener 2 is wrong in one minute now, the others in 99.
        x.due(0, "worst");
        Check y = Check.loaded("promise 23: one minute", "radio 0;stop 1 0 0 1;hears 0;hears 5");
        y.due(1, "cancel", 0, 1);
        y.due(1, "tick", 1);
        y.due(1, "worst");
    }

    private static void sixListeners() {
        Check x = Check.loaded("promises 17 to 25: six listeners", "radio 3;stop 1 0 0 100"
                + ";hears 0;hears 1;hears 2;hears 3;hears 4;hears 9 off 2 90");
        x.due(1, "correct", 0, 2, 0, 0, 100, 2);
        for (int l = 0; l < 6; l++) {
            x.due(100, "wrongMinutes", l);
            x.due(l == 5 ? -1 : 2 + l, "heardIn", l, 1);
            x.due(0, "overtakes", l);
        }
        x.due(63, "onAir", 0, 5);
        x.due(0, "worst");
        x.due(66f / 72f, "sameShare");
        x.due(1.0, "meanBehind");
        x.due(92, "sameIn", 5);
        x.due(5, "tick", 6);
        x.due(5, "count", 9);
        x.due(32, "onAir", 0, 5);
        x.due(31, "number", 1, 3);
        x.due(5, "worst");
        x.due(71f / 72f, "sameShare");
        x.due(1.0 / 6.0, "meanBehind");
        x.due(5, "tick", 5);
        x.due(1, "count", 11);
        x.due(0, "count", 10);
        x.due(Check.INDEX, "listener", 6, 0);
        x.due(Check.INDEX, "stop", 6, 0, 0);
        x.due(Check.INDEX, "hasHeard", 6, 1);
        x.due(Check.INDEX, "sameIn", 6);
        x.due(Check.INDEX, "setDelay", 6, 0);
    }

    private static void behind() {
        Check x = Check.loaded("promise 24", "radio 0;hears 0;hears 9");
        x.due(0, "behind", 0);
        x.due(1, "cancel", 0, 1);
        x.due(2, "cancel", 0, 2);
        x.due(3, "cancel", 0, 20);
        x.due(3, "behind", 0);
        x.due(2, "tick", 1);
        x.due(2, "behind", 0);
        x.due(2, "tick", 1);
        x.due(1, "behind", 0);
        x.due(3, "whole", 1);
        x.due(2, "tick", 1);
        x.due(0, "behind", 0);
        x.due(3, "behind", 1);
        x.due(0, "fetch", 1);
        x.due(3, "behind", 1);
        x.due(Check.INDEX, "behind", 2);
        x.due(Check.INDEX, "behind", -1);
    }

    private static void overtakes() {
        Check x = Check.loaded("promise 25", "radio 0;hears 0 off 1 9;hears 3");
        x.due(0, "overtakes", 0);
        x.due(1, "correct", 0, 1, 0, 0, 9, 9);
        x.due(2, "correct", 0, 2, 0, 0, 9, 4);
        x.due(3, "correct", 1, 2, 0, 0, 9, 5);
        x.due(3, "whole", 6);
        x.due(1, "repeat", 3, 7);
        dueOvertakes(x, 2, 2);
        x.due(0, "tick", 5);
        dueOvertakes(x, 2, 2);
        x.due(0, "tick", 1);
        dueOvertakes(x, 0, 2);
        x.due(0, "tick", 1);
        dueOvertakes(x, 0, 2);
        x.due(0, "count", 10);
        x.due(1, "tick", 3);
        dueOvertakes(x, 0, 1);
        x.due(1, "count", 10);
        x.due(1, "listener", 0, 1);
        // A whole list that is not on the air yet is left aside.
        x.due(0, "setPeriod", 11);
        dueOvertakes(x, 0, 1);
        x.due(4, "correct", 5, 1, 0, 0, 9, 20);
        dueOvertakes(x, 0, 1);
        x.due(Check.INDEX, "overtakes", 2);
        x.due(Check.INDEX, "overtakes", -1);
    }

    private static void dueOvertakes(Check x, int... numbers) {
        for (int l = 0; l < numbers.length; l++) {
            x.due(numbers[l], "overtakes", l);
        }
    }

    private static void withoutText() {
        Check x = new Check("promises 17 to 25: no text");
        x.due(Check.STATE, "listener", 9, 99);
        x.due(Check.STATE, "gap", 9, 0, 9);
        x.due(Check.STATE, "hasHeard", 9, 0);
        x.due(Check.STATE, "missing", 9, 0);
        x.due(Check.STATE, "isSame", 9, 9);
        x.due(Check.STATE, "wrongMinutes", 9);
        x.due(Check.STATE, "worst");
        x.due(Check.STATE, "behind", 9);
        x.due(Check.STATE, "overtakes", 9);
    }
}
