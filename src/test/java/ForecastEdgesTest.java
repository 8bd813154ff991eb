/** Promises 26 to 37 at their bounds: 0, 200 and 201 ticks, none, and times beyond 9999. */
public final class ForecastEdgesTest {
    public static void main(String[] args) {
        sameNow();
        sameWithin200();
        allSameWithin200();
        missingWithin200();
        ticksOfAForecast();
        heardNowAndLast();
        numbersThatAreNone();
        quiet();
        nextWholeList();
        withoutGaps();
        withAnotherPeriod();
        bestAtTheBounds();
        bestOfSeveral();
        fullAirInAForecast();
        beyondTheLastTime();
        means();
        Check.end();
    }

    /** By PERIOD a whole list is first heard behind the gap: at 200 with 65, at 201 with 98. */
    private static Check hears(int time, String listeners) {
        Check x = Check.loaded("heard at " + time, "radio " + (time == 200 ? 65 : 98) + listeners);
        x.due(1, "correct", 0, 1, 1, 10, 30, 1);
        return x;
    }

    private static void sameNow() {
        Check x = Check.loaded("promise 26: now", "radio 0;stop 1 1 1 2;hears 0");
        x.due(0, "sameIn", 0);
        x.due(0, "sameWithout", 0);
        x.due(0, "sameWith", 0, 0);
        x.due(0, "sameWith", 0, 99);
        x.due(0, "allSameIn");
        // Same now, also if it will be another list in between.
        x.due(1, "cancel", 0, 1);
        x.due(2, "correct", 0, 1, 1, 1, 2, 2);
        x.due(0, "sameIn", 0);
        x.due(0, "allSameIn");
        x.due(0, "tick", 1);
        x.due(1, "sameIn", 0);
        x.due(1, "allSameIn");
    }

    private static void sameWithin200() {
        Check at = hears(200, ";hears 0 off 0 199");
        at.due(200, "sameIn", 0);
        at.due(200, "sameWith", 0, 65);
        at.due(0, "tick", 1);
        at.due(199, "sameIn", 0);
        Check behind = hears(201, ";hears 0 off 0 200");
        behind.due(-1, "sameIn", 0);
        behind.due(-1, "sameWith", 0, 98);
        behind.due(0, "tick", 1);
        behind.due(200, "sameIn", 0);
        behind.due(200, "sameWith", 0, 98);
        behind.due(-1, "sameWith", 0, 0);
    }

    private static void allSameWithin200() {
        Check at = hears(200, ";hears 0;hears 0 off 0 199");
        at.due(200, "allSameIn");
        at.due(1, "sameIn", 0);
        Check behind = hears(201, ";hears 0 off 0 200;hears 0");
        behind.due(-1, "allSameIn");
        behind.due(1, "tick", 1);
        behind.due(200, "allSameIn");
        behind.due(0, "sameIn", 1);
    }

    /** Number 1 is lost at 1, 2 is heard at 2, and the next whole list only behind the gap. */
    private static void missingWithin200() {
        Check at = hears(200, ";hears 0 off 1 1 off 3 199");
        at.due(2, "cancel", 1, 2);
        int[] ticks = {0, 1, 2, 3, 199, 200};
        int[] missing = {0, 0, 1, 1, 1, 0};
        for (int i = 0; i < ticks.length; i++) {
            at.due(missing[i], "missingIn", 0, ticks[i]);
            at.due(ticks[i] < 200 ? 20 : 0, "wrongIn", 0, ticks[i]);
        }
        Check behind = hears(201, ";hears 0 off 1 1 off 3 200");
        behind.due(2, "cancel", 1, 2);
        behind.due(1, "missingIn", 0, 200);
        behind.due(20, "wrongIn", 0, 200);
        behind.due(0, "tick", 1);
        behind.due(1, "missingIn", 0, 199);
        behind.due(0, "missingIn", 0, 200);
        behind.due(20, "wrongIn", 0, 199);
        behind.due(0, "wrongIn", 0, 200);
    }

    private static void ticksOfAForecast() {
        Check x = hears(200, ";hears 0");
        for (String name : new String[] {"missingIn", "wrongIn"}) {
            x.due(name.equals("wrongIn") ? 20 : 0, name, 0, 0);
            x.due(0, name, 0, 200);
            x.refused(Check.ARGUMENT, name, 0, 201);
            x.refused(Check.ARGUMENT, name, 0, -1);
            x.refused(Check.INDEX, name, 1, 201);
        }
        x.due(20, "wrongMinutes", 0);
        x.due(0, "listener", 0, 6);
    }

    /** The longest way is LENGTH 20 and DELAY 9: nothing is heard for the first time behind it. */
    private static void heardNowAndLast() {
        Check x = Check.loaded("promise 28", "radio 0;hears 9;hears 0");
        x.due(1, "cancel", 0, 20);
        x.due(29, "heardIn", 0, 1);
        x.due(20, "heardIn", 1, 1);
        x.answer("tick", 20);
        x.due(0, "heardIn", 1, 1);
        x.due(9, "heardIn", 0, 1);
        x.answer("tick", 8);
        x.due(1, "heardIn", 0, 1);
        x.answer("tick", 1);
        x.due(0, "heardIn", 0, 1);
        Check lost = Check.loaded("promise 28: lost", "radio 1;hears 9 off 29 29");
        lost.due(1, "cancel", 0, 20);
        // Whole lists tell the slot, but the number is not heard by them.
        lost.due(-1, "heardIn", 0, 1);
        lost.due(0, "repeat", 1, 19);
        lost.due(28, "heardIn", 0, 1);
    }

    private static void numbersThatAreNone() {
        Check x = Check.loaded("promises 19 and 28: any number", "radio 3;hears 0");
        for (int n : new int[] {Integer.MIN_VALUE, -1, 0, 1, 2, 31, 32, 33, 63, 64, 65, 98, 99, 100,
            Integer.MAX_VALUE}) {
            x.due(-1, "heardIn", 0, n);
            x.due(0, "hasHeard", 0, n);
        }
        x.due(1, "cancel", 0, 1);
        x.due(1, "heardIn", 0, 1);
        x.due(-1, "heardIn", 0, 2);
        x.due(1, "tick", 1);
        for (int n : new int[] {Integer.MIN_VALUE, -31, -1, 0, 2, 33, 65, 129, Integer.MAX_VALUE}) {
            x.due(-1, "heardIn", 0, n);
            x.due(0, "hasHeard", 0, n);
        }
        x.due(0, "heardIn", 0, 1);
        x.due(1, "hasHeard", 0, 1);
    }

    private static void quiet() {
        Check x = Check.loaded("promise 31", "radio 0;hears 9 off 0 99;hears 0");
        x.due(0, "quietIn");
        x.due(0, "whole", 1);
        x.due(10, "quietIn");
        x.due(1, "cancel", 0, 20);
        x.due(29, "quietIn");
        x.due(2, "tick", 28);
        x.due(1, "quietIn");
        x.due(2, "tick", 1);
        x.due(0, "quietIn");
        // A whole list that goes on the air just as the last one ends: quiet a list later.
        Check late = Check.loaded("promise 31: the latest", "radio 29;hears 9");
        late.due(1, "cancel", 0, 20);
        late.due(43, "quietIn");
        late.due(29, "setPeriod", 30);
        late.due(29, "quietIn");
        Check never = Check.loaded("promise 31: never", "radio 14;hears 9");
        never.due(0, "quietIn");
        never.due(1, "tick", 14);
        never.due(-1, "quietIn");
        never.due(14, "setPeriod", 15);
        never.due(1, "tick", 1);
        never.due(14, "quietIn");
    }

    private static void nextWholeList() {
        for (int period : new int[] {1, 2, 60, 98, 99}) {
            Check x = Check.loaded("promise 32", "radio " + period + ";hears 0");
            x.due(period, "wholeIn");
            for (int time = 1; time <= 2 * period; time++) {
                x.due(1, "tick", 1);
                x.due(period - time % period, "wholeIn");
            }
        }
        Check x = Check.loaded("promise 32: none", "radio 0;hears 0");
        x.due(-1, "wholeIn");
        x.due(0, "setPeriod", 99);
        x.due(99, "wholeIn");
        x.due(0, "undo");
        x.due(-1, "wholeIn");
    }

    /** The longest way of a whole list if there is room: 99 ticks to it, LENGTH 5 and DELAY 9. */
    private static void withoutGaps() {
        Check x = Check.loaded("promise 33", "radio 0;hears 9 off 0 99 off 212 212;hears 0");
        x.due(2, "tick", 60);
        x.due(2, "tick", 29);
        x.due(1, "correct", 0, 1, 1, 1, 2, 1);
        x.due(-1, "sameIn", 0);
        x.due(10, "sameWithout", 0);
        x.due(1, "sameWithout", 1);
        x.due(1, "tick", 10);
        x.due(-1, "sameWithout", 0);
        x.due(0, "setPeriod", 99);
        x.due(113, "sameWithout", 0);
        x.due(-1, "sameIn", 0);
        x.due(2, "listener", 0, 1);
        x.due(0, "sameWithout", 1);
        longestWait();
    }

    /** The list at 99 is left out, as all on the air end just then: the next one is heard at 212. */
    private static void longestWait() {
        Check x = Check.loaded("promise 33: a list left out", "radio 99;hears 9 off 70 70 off 212 212");
        x.due(1, "tick", 60);
        x.due(1, "correct", 0, 1, 1, 1, 2, 1);
        x.due(0, "tick", 10);
        x.due(2, "cancel", 1, 20);
        for (int i = 1; i < 30; i++) {
            x.due(1, "repeat", 2, 20);
        }
        x.due(142, "sameWithout", 0);
        x.due(-1, "sameIn", 0);
        x.due(29, "heardIn", 0, 2);
    }

    private static void withAnotherPeriod() {
        Check x = hears(200, ";hears 0 off 0 1");
        x.due(0, "tick", 1);
        x.due(69, "sameIn", 0);
        x.due(69, "sameWith", 0, 65);
        x.due(-1, "sameWith", 0, 0);
        x.due(6, "sameWith", 0, 1);
        x.due(103, "sameWith", 0, 99);
        x.due(65, "count", 2);
        x.refused(Check.ARGUMENT, "sameWith", 0, 100);
        x.refused(Check.ARGUMENT, "sameWith", 0, -1);
        x.refused(Check.INDEX, "sameWith", 1, 100);
    }

    /** 200 ticks are less than NONE; if all are NONE, or all alike, the greatest PERIOD is told. */
    private static void bestAtTheBounds() {
        Check at = hears(200, ";hears 0 off 0 199");
        at.due(200, "sameWith", 0, 39);
        at.due(-1, "sameWith", 0, 66);
        at.due(-1, "sameWith", 0, 99);
        at.due(65, "bestPeriod", 0);
        Check behind = hears(201, ";hears 0 off 0 200");
        behind.due(-1, "sameWith", 0, 98);
        behind.due(99, "bestPeriod", 0);
        behind.due(0, "tick", 1);
        // On the air at 196, heard at 201: 98 is the greatest PERIOD that divides it.
        behind.due(98, "bestPeriod", 0);
        Check now = Check.loaded("promise 35: now", "radio 3;hears 0");
        now.due(99, "bestPeriod", 0);
    }

    private static void bestOfSeveral() {
        Check x = hears(200, ";hears 0 off 0 1");
        x.due(0, "tick", 1);
        // On the air at 2, heard at 7, with 2 and with 1.
        x.due(6, "sameWith", 0, 1);
        x.due(6, "sameWith", 0, 2);
        x.due(2, "bestPeriod", 0);
        x.due(0, "tick", 59);
        x.due(61, "bestPeriod", 0);
        x.due(6, "sameWith", 0, 61);
        Check first = Check.loaded("promise 35: 1", "radio 0;hears 0 off 1 1");
        first.due(1, "correct", 0, 1, 1, 1, 2, 1);
        first.due(1, "bestPeriod", 0);
    }

    /** The whole list at 4 finds no room as 30 are on the air then, that at 8 does. */
    private static void fullAirInAForecast() {
        for (int size = 29; size <= 30; size++) {
            Check x = Check.loaded("promise 26: " + size + " on the air", "radio 4;hears 0 off 1 4");
            x.due(1, "correct", 0, 1, 1, 10, 30, 4);
            for (int i = 1; i < size; i++) {
                x.due(0, "repeat", 1, 4);
            }
            int ticks = size == 29 ? 9 : 13;
            x.due(ticks, "sameIn", 0);
            x.due(ticks, "allSameIn");
            x.due(20, "wrongIn", 0, ticks - 1);
            x.due(0, "wrongIn", 0, ticks);
            x.due(4, "wholeIn");
            x.due(0, "count", 8);
            x.due(0, "tick", 4);
            x.due(size - 29, "count", 8);
            x.due(ticks - 4, "sameIn", 0);
        }
    }

    private static void beyondTheLastTime() {
        Check x = Check.loaded("beyond 9999", "radio 99;hears 0 off 9990 9999");
        for (int i = 0; i < 166; i++) {
            x.due(1, "tick", 60);
        }
        x.due(1, "tick", 39);
        x.due(1, "correct", 0, 1, 1, 10, 30, 1);
        x.due(1, "sameIn", 0);
        x.due(1, "heardIn", 0, 1);
        x.due(1, "allSameIn");
        x.due(0, "wrongIn", 0, 200);
        x.due(0, "missingIn", 0, 200);
        x.due(20, "wrongIn", 0, 0);
        x.due(99, "wholeIn");
        x.due(5, "quietIn");
        x.due(1, "sameWithout", 0);
        x.due(1, "sameWith", 0, 0);
        x.due(99, "bestPeriod", 0);
        x.refused(Check.ARGUMENT, "tick", 1);
        x.due(9999, "count", 3);
    }

    private static void means() {
        Check x = Check.loaded("promise 37", "radio 0;hears 0;hears 1;hears 2;hears 3;hears 4;hears 5");
        x.due(0.0, "meanBehind");
        x.due(1, "cancel", 0, 1);
        for (int ticks = 0; ticks <= 6; ticks++) {
            x.due((double) (6 - ticks) / 6.0, "meanBehind");
            x.answer("tick", 1);
        }
        Check one = Check.loaded("promise 37: one listener", "radio 0;hears 9");
        for (int n = 1; n <= 30; n++) {
            one.due(n, "cancel", 0, 20);
            one.due((double) n, "meanBehind");
        }
    }
}
