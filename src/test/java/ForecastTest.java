/** Promises 26 to 37: what would be if only ticks pass, what would be otherwise, floats. */
public final class ForecastTest {
    public static void main(String[] args) {
        sameIn();
        sameInAtTheEdge();
        beyondTheLastTime();
        allSameIn();
        heardIn();
        missingIn();
        wrongIn();
        quietIn();
        wholeIn();
        otherwise();
        nothingChanges();
        floats();
        withoutText();
        Check.end();
    }

    private static void sameIn() {
        Check x = Check.loaded("promise 26", "radio 0;hears 2;hears 0 off 5 300");
        x.due(0, "sameIn", 0);
        x.due(1, "correct", 0, 1, 0, 0, 9, 3);
        x.due(5, "sameIn", 0);
        x.due(3, "sameIn", 1);
        x.due(5, "allSameIn");
        x.due(0, "tick", 2);
        x.due(3, "sameIn", 0);
        x.due(1, "sameIn", 1);
        x.due(1, "addGap", 0, 0, 4);
        x.due(3, "sameIn", 0);
        x.due(2, "addGap", 0, 5, 5);
        x.due(-1, "sameIn", 0);
        x.due(-1, "allSameIn");
        x.due(Check.INDEX, "sameIn", 2);
        x.due(Check.INDEX, "sameIn", -1);
    }

    private static void sameInAtTheEdge() {
        // Whole lists go on the air at 97 and 194, and are heard 6 ticks later.
        Check x = Check.loaded("promise 26: 200", "radio 97;hears 1 off 0 199;hears 1 off 0 103");
        x.due(1, "correct", 0, 1, 0, 0, 9, 1);
        x.due(200, "sameIn", 0);
        x.due(200, "sameIn", 1);
        x.due(200, "allSameIn");
        x.due(1, "setDelay", 1, 2);
        x.due(104, "sameIn", 1);
        x.due(1, "setDelay", 0, 2);
        x.due(-1, "sameIn", 0);
        x.due(-1, "allSameIn");
        x.due(0, "tick", 1);
        x.due(200, "sameIn", 0);
        x.due(200, "allSameIn");
    }

    private static void beyondTheLastTime() {
        Check x = Check.loaded("promise 26: beyond 9999", "radio 99;hears 9 off 9990 9999");
        for (int i = 0; i < 166; i++) {
            x.due(1, "tick", 60);
        }
        x.due(1, "tick", 30);
        x.due(1, "correct", 0, 1, 0, 0, 9, 20);
        x.due(23, "sameIn", 0);
        x.due(9, "wholeIn");
        x.due(Check.ARGUMENT, "tick", 10);
        x.due(0, "tick", 9);
        x.due(9999, "count", 3);
        x.due(Check.ARGUMENT, "tick", 1);
        x.due(14, "sameIn", 0);
        x.due(20, "heardIn", 0, 1);
        x.due(99, "wholeIn");
        x.due(9, "wrongIn", 0, 13);
        x.due(0, "wrongIn", 0, 14);
        x.due(20, "quietIn");
    }

    private static void allSameIn() {
        Check x = Check.loaded("promise 27", "radio 0;stop 1 0 0 9;hears 0;hears 1");
        x.due(0, "allSameIn");
        x.due(1, "correct", 0, 2, 0, 0, 9, 1);
        x.due(2, "correct", 0, 1, 0, 0, 9, 2);
        // The lists are as published now; the listeners hear of another stop in between.
        x.due(0, "allSameIn");
        x.due(1, "tick", 1);
        x.due(1, "sameIn", 0);
        x.due(0, "sameIn", 1);
        x.due(2, "allSameIn");
        x.due(1, "tick", 1);
        x.due(0, "sameIn", 0);
        x.due(1, "sameIn", 1);
        x.due(1, "allSameIn");
    }

    private static void heardIn() {
        Check x = Check.loaded("promise 28", "radio 1;hears 1 off 4 4;hears 0");
        x.due(1, "cancel", 0, 3);
        x.due(-1, "heardIn", 0, 1);
        x.due(3, "heardIn", 1, 1);
        x.due(0, "repeat", 1, 4);
        x.due(5, "heardIn", 0, 1);
        x.due(3, "heardIn", 1, 1);
        for (int n : new int[] {0, -1, 2, 99, 100, Integer.MIN_VALUE, Integer.MAX_VALUE}) {
            x.due(-1, "heardIn", 0, n);
        }
        x.due(2, "tick", 4);
        x.due(1, "heardIn", 0, 1);
        x.due(0, "heardIn", 1, 1);
        x.due(2, "tick", 1);
        x.due(0, "heardIn", 0, 1);
        x.due(Check.INDEX, "heardIn", 2, 1);
        x.due(Check.INDEX, "heardIn", -1, 1);
    }

    private static void missingIn() {
        Check x = Check.loaded("promise 29", "radio 0;hears 0");
        x.due(1, "cancel", 0, 5);
        x.due(2, "cancel", 0, 2);
        x.due(3, "cancel", 0, 3);
        x.due(4, "cancel", 0, 1);
        int[] missing = {0, 3, 2, 1, 1, 0, 0};
        for (int ticks = 0; ticks < missing.length; ticks++) {
            x.due(missing[ticks], "missingIn", 0, ticks);
        }
        x.due(0, "missingIn", 0, 200);
        x.due(4, "whole", 2);
        x.due(3, "missingIn", 0, 1);
        x.due(0, "missingIn", 0, 2);
        x.due(Check.INDEX, "missingIn", 1, 201);
        x.due(Check.INDEX, "missingIn", -1, 0);
        x.due(Check.ARGUMENT, "missingIn", 0, 201);
        x.due(Check.ARGUMENT, "missingIn", 0, -1);
    }

    private static void wrongIn() {
        Check x = Check.loaded("promise 30", "radio 0;stop 1 0 0 100;hears 0;hears 3");
        x.due(1, "cancel", 0, 4);
        x.due(100, "wrongIn", 0, 0);
        x.due(100, "wrongIn", 0, 3);
        x.due(0, "wrongIn", 0, 4);
        x.due(100, "wrongIn", 1, 6);
        x.due(0, "wrongIn", 1, 7);
        x.due(0, "wrongIn", 0, 200);
        x.due(Check.INDEX, "wrongIn", 2, 201);
        x.due(Check.INDEX, "wrongIn", -1, 0);
        x.due(Check.ARGUMENT, "wrongIn", 0, 201);
        x.due(Check.ARGUMENT, "wrongIn", 0, -1);
    }

    private static void quietIn() {
        Check x = Check.loaded("promise 31", "radio 0;hears 0 off 0 99;hears 3");
        x.due(0, "quietIn");
        x.due(1, "cancel", 0, 4);
        x.due(7, "quietIn");
        x.due(2, "tick", 6);
        x.due(1, "quietIn");
        x.due(2, "tick", 1);
        x.due(0, "quietIn");
        Check y = Check.loaded("promise 31: by itself", "radio 6;hears 0");
        y.due(0, "quietIn");
        y.due(1, "tick", 6);
        y.due(5, "quietIn");
        // With 5, the next whole list goes on the air at the very time at which one is heard.
        y.due(6, "setPeriod", 5);
        y.due(1, "tick", 4);
        y.due(-1, "quietIn");
    }

    private static void wholeIn() {
        Check x = Check.loaded("promise 32", "radio 10;hears 0");
        x.due(10, "wholeIn");
        x.due(1, "tick", 3);
        x.due(7, "wholeIn");
        x.due(1, "tick", 6);
        x.due(1, "wholeIn");
        x.due(1, "tick", 1);
        x.due(10, "wholeIn");
        x.due(10, "setPeriod", 1);
        x.due(1, "wholeIn");
        x.due(1, "setPeriod", 0);
        x.due(-1, "wholeIn");
    }

    private static void otherwise() {
        Check x = Check.loaded("promises 33 to 35", "radio 0;hears 1 off 0 9 off 4 20;hears 0");
        x.due(99, "bestPeriod", 0);
        x.due(1, "correct", 0, 1, 0, 0, 9, 3);
        x.due(-1, "sameIn", 0);
        x.due(4, "sameWithout", 0);
        x.due(3, "sameWithout", 1);
        x.due(99, "bestPeriod", 1);
        x.due(1, "tick", 4);
        x.due(-1, "sameWithout", 0);
        x.due(0, "sameWithout", 1);
        x.due(-1, "sameWith", 0, 0);
        // From 4 on: on the air at 7, 14 and 21, heard at 13, 20 and 27; the gaps end at 20.
        x.due(23, "sameWith", 0, 7);
        x.due(17, "sameWith", 0, 5);
        x.due(0, "sameWith", 1, 99);
        // What goes on the air at 15 is heard first.
        x.due(15, "bestPeriod", 0);
        x.due(99, "bestPeriod", 1);
        x.due(0, "count", 2);
        x.due(2, "listener", 0, 1);
        x.due(3, "addGap", 0, 0, 9999);
        x.due(99, "bestPeriod", 0);
        bestPeriods();
        x.due(Check.INDEX, "sameWithout", 2);
        x.due(Check.INDEX, "sameWithout", -1);
        x.due(Check.INDEX, "sameWith", 2, 100);
        x.due(Check.INDEX, "sameWith", -1, 0);
        x.due(Check.ARGUMENT, "sameWith", 0, 100);
        x.due(Check.ARGUMENT, "sameWith", 0, -1);
        x.due(Check.INDEX, "bestPeriod", 2);
        x.due(Check.INDEX, "bestPeriod", -1);
    }

    private static void bestPeriods() {
        Check x = Check.loaded("promise 35", "radio 0;hears 0 off 1 1;hears 9");
        x.due(1, "correct", 0, 1, 0, 0, 9, 1);
        // The first whole list is on the air at 1 only with the PERIOD 1, and at 2 with 1 and 2.
        x.due(1, "bestPeriod", 0);
        x.due(6, "sameWith", 0, 1);
        x.due(7, "sameWith", 0, 2);
        x.due(99, "bestPeriod", 1);
        x.due(0, "tick", 1);
        x.due(2, "bestPeriod", 0);
        x.due(6, "sameWith", 0, 2);
        x.due(1, "tick", 47);
        x.due(49, "bestPeriod", 0);
        x.due(1, "tick", 50);
        x.due(98, "count", 3);
        x.due(2, "correct", 0, 2, 0, 0, 9, 7);
        // On the air at 99 with 99: heard at 104, a tick ahead of the correction.
        x.due(99, "bestPeriod", 0);
        x.due(7, "sameWith", 0, 98);
    }

    private static void nothingChanges() {
        Check x = Check.loaded("promises 26 to 35: nothing is changed",
                "radio 3;stop 1 2 3 9;hears 4;hears 0 off 2 8");
        x.due(1, "cancel", 0, 9);
        x.due(2, "correct", 0, 9, 3, 4, 8, 2);
        x.due(0, "tick", 1);
        String before = x.state();
        x.answer("sameIn", 1);
        x.answer("allSameIn");
        x.answer("heardIn", 1, 2);
        x.answer("missingIn", 1, 150);
        x.answer("wrongIn", 1, 150);
        x.answer("quietIn");
        x.answer("wholeIn");
        x.answer("sameWithout", 1);
        x.answer("sameWith", 1, 7);
        x.answer("bestPeriod", 1);
        x.answer("overtakes", 1);
        if (!before.equals(x.state())) {
            Check.tell("a forecast changed something");
        }
        x.due(3, "undoable");
    }

    private static void floats() {
        Check x = Check.loaded("promises 36 and 37", "radio 0;hears 0;hears 0;hears 9");
        x.due(1.0f, "sameShare");
        x.due(0.0, "meanBehind");
        x.due(1, "correct", 0, 1, 0, 0, 9, 1);
        x.due(2, "correct", 1, 1, 0, 0, 9, 1);
        x.due(30f / 36f, "sameShare");
        x.due(2.0, "meanBehind");
        x.due(2, "tick", 1);
        x.due(34f / 36f, "sameShare");
        x.due(2.0 / 3.0, "meanBehind");
    }

    private static void withoutText() {
        Check x = new Check("promises 26 to 37: no text");
        x.due(Check.STATE, "sameIn", 9);
        x.due(Check.STATE, "allSameIn");
        x.due(Check.STATE, "heardIn", 9, 1);
        x.due(Check.STATE, "missingIn", 9, 999);
        x.due(Check.STATE, "wrongIn", 9, 999);
        x.due(Check.STATE, "quietIn");
        x.due(Check.STATE, "wholeIn");
        x.due(Check.STATE, "sameWithout", 9);
        x.due(Check.STATE, "sameWith", 9, 999);
        x.due(Check.STATE, "bestPeriod", 9);
        x.due(Check.STATE, "sameShare");
        x.due(Check.STATE, "meanBehind");
    }
}
