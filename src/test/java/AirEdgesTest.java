/** Sections 2 to 4 at their bounds: corrections, what is on the air, gaps, hearing, ticks. */
public final class AirEdgesTest {
    public static void main(String[] args) {
        leastAndGreatestWay();
        onAirUntilAllWereToHear();
        emptyAir();
        orderByTheFirstToHear();
        twoOfTheSameNumber();
        numberOfAWholeList();
        wholeListAsByThen();
        edgesOfAGap();
        gapsAtFirstAndAtLast();
        whatIsInAGapIsLost();
        orderAtOneTime();
        sameVersionIsDropped();
        droppedIsHeard();
        newerSlotsStay();
        baseIsTheGreatest();
        whatIsMissed();
        allAreMissed();
        noneMissedIsPublished();
        periods();
        periodIsChanged();
        roomForTheOwnList();
        sixtyTicks();
        overtaken();
        fetchedBase();
        gapsInOrder();
        Check.end();
    }

    /** LENGTH 1 and 20, DELAY 0 and 9: heard just then, not a tick ahead; on the air up to then. */
    private static void leastAndGreatestWay() {
        for (int length = 1; length <= 20; length++) {
            for (int delay = 0; delay <= 9; delay += 9) {
                Check x = Check.loaded("section 2: LENGTH plus DELAY", "radio 0;hears " + delay);
                x.due(1, "cancel", 0, length);
                x.due(1, "whole", length);
                way(x, length, length + delay);
                Check y = Check.loaded("section 2: another DELAY", "radio 0;hears " + (9 - delay));
                y.due(9 - delay, "setDelay", 0, delay);
                y.due(1, "cancel", 0, length);
                y.due(1, "whole", length);
                way(y, length, length + delay);
            }
        }
    }

    private static void way(Check x, int length, int ticks) {
        x.due(length, "onAir", 0, 3);
        x.due(ticks, "onAir", 0, 4);
        x.due(ticks, "heardIn", 0, 1);
        x.due(ticks, "quietIn");
        for (int i = 1; i < ticks; i++) {
            x.due(1, "tick", 1);
        }
        x.due(0, "hasHeard", 0, 1);
        x.due(0, "listener", 0, 8);
        x.due(1, "count", 5);
        x.due(1, "count", 6);
        x.due(1, "tick", 1);
        x.due(1, "hasHeard", 0, 1);
        x.due(1, "listener", 0, 8);
        x.due(0, "count", 5);
        x.due(0, "count", 6);
    }

    /** Also until the time of one that hears nothing then. */
    private static void onAirUntilAllWereToHear() {
        Check x = Check.loaded("section 2: on the air", "radio 0;hears 0;hears 2;hears 9 off 0 99");
        x.due(1, "correct", 3, 1, 1, 1, 2, 1);
        x.due(7, "onAir", 0, 5);
        x.due(1, "tick", 1);
        x.due(6, "onAir", 0, 5);
        x.due(1, "number", 1, 3);
        x.due(1, "tick", 1);
        x.due(6, "onAir", 0, 5);
        x.due(2, "tick", 1);
        x.due(4, "onAir", 0, 5);
        x.due(3, "number", 1, 3);
        x.due(2, "tick", 6);
        x.due(1, "number", 1, 4);
        x.due(1, "onAir", 0, 4);
        x.due(1, "whole", 20);
        x.due(2, "cancel", 4, 20);
        x.due(2, "tick", 1);
        // A whole list of its number, and another correction are no correction 1 on the air.
        x.due(0, "number", 1, 4);
        x.due(1, "number", 2, 4);
        x.due(9, "number", 2, 2);
        x.due(0, "number", 1, 2);
        x.due(1, "count", 5);
        x.due(3, "number", 1, 3);
        x.due(1, "listener", 2, 11);
        x.due(3, "repeat", 1, 1);
        x.due(1, "number", 1, 4);
        x.due(7, "onAir", 0, 5);
        x.due(3, "number", 1, 3);
    }

    private static void emptyAir() {
        Check x = Check.loaded("promise 9: nothing is on the air", "radio 0;hears 0");
        x.refused(Check.INDEX, "onAir", 0, 0);
        x.refused(Check.INDEX, "onAir", 0, 6);
        x.due(0, "whole", 1);
        x.due(0, "onAir", 0, 0);
        x.refused(Check.INDEX, "onAir", 1, 0);
        x.refused(Check.ARGUMENT, "onAir", 0, 6);
        for (int i = 1; i < 30; i++) {
            x.due(0, "whole", 1 + i % 20);
        }
        x.due(20, "onAir", 29, 3);
        x.refused(Check.INDEX, "onAir", 30, 0);
        x.due(1, "tick", 20);
        x.refused(Check.INDEX, "onAir", 0, 0);
    }

    private static void orderByTheFirstToHear() {
        Check x = Check.loaded("promise 9: the order", "radio 0;hears 6;hears 4");
        x.due(1, "cancel", 0, 5);
        x.due(6, "setDelay", 0, 0);
        x.due(4, "setDelay", 1, 1);
        x.due(2, "cancel", 1, 8);
        x.due(3, "cancel", 2, 9);
        x.due(0, "repeat", 1, 9);
        // The first listener is to hear them at 9, 8, 9 and 9.
        int[][] order = {{2, 8, 8}, {1, 5, 9}, {1, 9, 9}, {3, 9, 9}};
        for (int i = 0; i < order.length; i++) {
            x.due(order[i][0], "onAir", i, 0);
            x.due(order[i][1], "onAir", i, 3);
            x.due(order[i][2], "onAir", i, 4);
        }
        // What ended goes; of what the first listener has heard the order stays.
        x.due(2, "tick", 9);
        x.due(1, "onAir", 0, 0);
        x.due(5, "onAir", 0, 3);
        x.due(9, "onAir", 0, 4);
        x.due(1, "onAir", 0, 5);
        x.due(9, "onAir", 1, 3);
        x.due(2, "onAir", 1, 5);
        x.due(3, "onAir", 2, 0);
        x.due(2, "onAir", 2, 5);
    }

    /** Alike in all else, the one that went on the air first comes first; corrections are ahead. */
    private static void twoOfTheSameNumber() {
        Check x = Check.loaded("section 3: alike", "radio 0;hears 0");
        x.due(0, "whole", 10);
        x.due(1, "cancel", 5, 10);
        x.due(1, "whole", 10);
        x.due(1, "tick", 3);
        x.due(1, "whole", 7);
        x.due(5, "repeat", 1, 7);
        x.due(2, "cancel", 6, 7);
        x.due(1, "tick", 4);
        x.due(5, "repeat", 1, 3);
        x.due(2, "whole", 3);
        int[][] order = {{0, -1, 0}, {1, 5, 0}, {1, 5, 3}, {1, 5, 7}, {1, -1, 0}, {1, -1, 3}, {2, 6, 3},
            {2, -1, 7}};
        for (int i = 0; i < order.length; i++) {
            for (int what = 0; what < 3; what++) {
                x.due(order[i][what], "onAir", i, what);
            }
            x.due(10, "onAir", i, 4);
        }
    }

    private static void numberOfAWholeList() {
        Check x = Check.loaded("section 2: the number of a whole list", "radio 0;hears 0");
        x.due(0, "whole", 1);
        x.due(0, "onAir", 0, 0);
        x.due(-1, "onAir", 0, 1);
        x.due(1, "tick", 1);
        x.due(0, "listener", 0, 3);
        x.due(0, "listener", 0, 4);
        x.due(1, "listener", 0, 8);
        x.due(0, "count", 6);
        x.due(1, "count", 7);
        x.due(1, "cancel", 0, 20);
        x.due(1, "whole", 1);
        x.due(1, "tick", 1);
        x.due(1, "listener", 0, 3);
        x.due(1, "listener", 0, 4);
        x.due(0, "listener", 0, 5);
        x.due(0, "hasHeard", 0, 1);
        x.due(0, "behind", 0);
    }

    private static void wholeListAsByThen() {
        Check x = Check.loaded("section 2: as by then", "radio 0;stop 1 1 1 2;hears 0");
        x.due(0, "whole", 2);
        x.due(1, "correct", 0, 2, 2, 2, 3, 20);
        x.due(1, "whole", 3);
        x.due(2, "cancel", 0, 20);
        x.due(2, "whole", 4);
        x.due(0, "tick", 2);
        x.due(1, "stop", 0, 0, 0);
        x.due(0, "stop", 0, 0, 4);
        x.due(0, "tick", 1);
        x.due(2, "stop", 0, 0, 0);
        x.due(1, "stop", 0, 0, 4);
        x.due(1, "tick", 1);
        x.due(-1, "stop", 0, 0, 0);
        x.due(2, "stop", 0, 0, 4);
    }

    /** Heard a tick ahead of BEGIN and behind END, not at BEGIN, between and at END. */
    private static void edgesOfAGap() {
        int[][] gaps = {{5, 5}, {5, 6}, {5, 8}, {1, 1}, {0, 3}, {10, 9999}};
        for (int[] gap : gaps) {
            Check x = Check.loaded("section 3: a gap", "radio 0;hears 0 off " + gap[0] + " " + gap[1]);
            for (int n = 1; n <= 12; n++) {
                x.due(n, "cancel", 0, n);
            }
            int lost = 0;
            for (int time = 0; time <= 12; time++) {
                boolean deaf = gap[0] <= time && time <= gap[1];
                x.due(deaf ? 1 : 0, "listener", 0, 2);
                x.due(deaf || time == 0 ? 0 : 1, "hasHeard", 0, time);
                lost += deaf && time > 0 ? 1 : 0;
                x.due(lost, "listener", 0, 11);
                x.due(lost, "count", 11);
                if (time < 12) {
                    x.due(1, "tick", 1);
                }
            }
        }
    }

    private static void gapsAtFirstAndAtLast() {
        Check x = Check.loaded("section 3: 0 and 9999", "radio 0;hears 0 off 0 0 off 9999 9999;hears 0");
        x.due(1, "listener", 0, 2);
        x.due(0, "listener", 1, 2);
        x.due(1, "addGap", 1, 0, 0);
        x.due(1, "listener", 1, 2);
        x.due(2, "tick", 1);
        x.due(0, "listener", 0, 2);
        for (int i = 0; i < 166; i++) {
            x.due(2, "tick", 60);
        }
        x.due(2, "tick", 37);
        x.due(9998, "count", 3);
        x.due(0, "listener", 0, 2);
        x.due(1, "cancel", 0, 1);
        x.due(2, "cancel", 0, 2);
        x.due(-1, "heardIn", 0, 1);
        // At 10000, beyond all gaps and all ticks, it would hear.
        x.due(2, "heardIn", 0, 2);
        x.due(2, "tick", 1);
        x.due(1, "listener", 0, 2);
        x.due(0, "listener", 1, 2);
        x.due(0, "hasHeard", 0, 1);
        x.due(1, "hasHeard", 1, 1);
        x.due(1, "heardIn", 0, 2);
        x.due(1, "listener", 0, 11);
    }

    /** What it was to hear in a gap it never hears: not behind it, nor if the gap goes later. */
    private static void whatIsInAGapIsLost() {
        Check x = Check.loaded("section 3: never heard", "radio 0;hears 0 off 2 3 off 3 3 off 1 4;hears 9");
        x.due(1, "correct", 0, 1, 1, 1, 2, 3);
        x.due(1, "whole", 3);
        x.due(0, "tick", 3);
        x.due(2, "listener", 0, 11);
        x.due(0, "listener", 1, 11);
        x.due(2, "count", 11);
        x.due(2, "onAir", 0, 5);
        x.due(2, "dropGap", 0, 0);
        x.due(1, "dropGap", 0, 0);
        x.due(0, "dropGap", 0, 0);
        x.due(0, "listener", 0, 2);
        x.due(1, "tick", 60);
        x.due(0, "hasHeard", 0, 1);
        x.due(0, "listener", 0, 8);
        x.due(-1, "stop", 0, 0, 0);
        x.due(2, "listener", 0, 11);
    }

    /** Smaller numbers first, also if they went on the air later; corrections ahead of lists. */
    private static void orderAtOneTime() {
        Check x = Check.loaded("section 3: smaller numbers first", "radio 0;hears 0");
        x.due(1, "correct", 0, 1, 1, 1, 2, 20);
        x.due(2, "correct", 0, 2, 1, 1, 2, 4);
        x.due(0, "repeat", 1, 4);
        x.due(1, "tick", 4);
        x.due(0, "listener", 0, 7);
        x.due(2, "stop", 0, 0, 4);
        aheadOfAll();
        Check y = Check.loaded("section 3: a correction and a list of a greater number",
                "radio 0;hears 0");
        y.due(1, "correct", 0, 1, 1, 1, 2, 20);
        y.due(2, "cancel", 1, 20);
        y.due(2, "whole", 4);
        y.due(0, "repeat", 1, 4);
        y.due(1, "tick", 4);
        y.due(0, "listener", 0, 7);
        y.due(1, "tick", 16);
        y.due(2, "listener", 0, 7);
        Check z = Check.loaded("section 3: a correction and a list of its number", "radio 0;hears 0");
        z.due(1, "correct", 0, 1, 1, 1, 2, 20);
        z.due(1, "whole", 4);
        z.due(0, "repeat", 1, 4);
        z.due(1, "tick", 4);
        z.due(0, "listener", 0, 7);
        z.due(1, "hasHeard", 0, 1);
        z.due(1, "tick", 16);
        z.due(1, "listener", 0, 7);
        z.due(1, "count", 10);
    }

    /** The one that goes on the air last may be heard ahead of all others, at its time. */
    private static void aheadOfAll() {
        Check x = Check.loaded("section 3: ahead of all", "radio 0;hears 0 off 1 1");
        x.due(1, "correct", 0, 1, 1, 1, 2, 1);
        x.due(0, "tick", 1);
        x.due(2, "correct", 0, 2, 1, 1, 2, 4);
        x.due(2, "whole", 4);
        x.due(0, "repeat", 1, 4);
        int[] order = {1, 2, 2};
        for (int i = 0; i < order.length; i++) {
            x.due(order[i], "onAir", i, 0);
            x.due(i < 2 ? 0 : -1, "onAir", i, 1);
        }
        x.due(1, "tick", 4);
        x.due(0, "listener", 0, 7);
        x.due(2, "listener", 0, 5);
        x.due(2, "stop", 0, 0, 4);
    }

    /** Dropped unless the number is greater than the version: 1 less, the same, 1 more. */
    private static void sameVersionIsDropped() {
        Check x = Check.loaded("section 3: versions", "radio 0;hears 0");
        x.due(1, "correct", 0, 1, 1, 1, 2, 20);
        x.due(2, "correct", 0, 2, 1, 1, 2, 1);
        x.due(3, "correct", 0, 3, 1, 1, 2, 20);
        x.due(0, "tick", 1);
        x.due(2, "stop", 0, 0, 4);
        x.due(0, "repeat", 1, 1);
        x.due(0, "tick", 1);
        x.due(1, "listener", 0, 7);
        x.due(0, "repeat", 2, 1);
        x.due(0, "tick", 1);
        x.due(2, "listener", 0, 7);
        x.due(2, "stop", 0, 0, 0);
        x.due(0, "repeat", 3, 1);
        x.due(1, "tick", 1);
        x.due(2, "listener", 0, 7);
        x.due(3, "stop", 0, 0, 0);
        x.due(1, "tick", 16);
        x.due(4, "listener", 0, 7);
        x.due(4, "count", 10);
    }

    private static void droppedIsHeard() {
        Check x = Check.loaded("section 3: dropped, but heard", "radio 0;hears 0");
        x.due(1, "cancel", 0, 2);
        x.due(2, "cancel", 0, 1);
        x.due(1, "tick", 1);
        x.due(0, "hasHeard", 0, 1);
        x.due(1, "missing", 0, 0);
        x.due(0, "number", 1, 3);
        x.due(1, "tick", 1);
        x.due(1, "listener", 0, 7);
        x.due(1, "hasHeard", 0, 1);
        x.due(1, "number", 1, 3);
        x.due(2, "listener", 0, 5);
        x.due(0, "listener", 0, 6);
        x.due(0, "repeat", 1, 1);
        x.due(1, "tick", 1);
        x.due(2, "listener", 0, 5);
    }

    private static void newerSlotsStay() {
        Check x = Check.loaded("section 3: a whole list", "radio 0;hears 0");
        x.due(1, "correct", 0, 1, 1, 1, 2, 20);
        x.due(2, "correct", 1, 2, 1, 1, 2, 1);
        x.due(2, "whole", 9);
        x.due(3, "correct", 2, 3, 1, 1, 2, 1);
        x.due(4, "correct", 1, 4, 1, 1, 2, 1);
        x.due(0, "tick", 1);
        // The list has the versions 1, 2, 0; the listener 0, 4, 3.
        int[] ahead = {0, 4, 3, 0};
        int[] behind = {1, 4, 3, 0};
        for (int k = 0; k < 4; k++) {
            x.due(ahead[k], "stop", 0, k, 4);
        }
        x.due(1, "tick", 8);
        for (int k = 0; k < 4; k++) {
            x.due(behind[k], "stop", 0, k, 4);
        }
        x.due(4, "stop", 0, 1, 0);
        x.due(3, "stop", 0, 2, 0);
    }

    /** A whole list of a smaller number that comes later leaves base and greatest number. */
    private static void baseIsTheGreatest() {
        Check x = Check.loaded("section 3: the base", "radio 0;hears 0");
        x.due(0, "whole", 4);
        x.due(1, "cancel", 0, 20);
        x.due(1, "whole", 3);
        x.due(2, "cancel", 0, 20);
        x.due(2, "whole", 2);
        x.due(3, "cancel", 1, 1);
        int[] bases = {0, 0, 2, 2, 2};
        int[] greatest = {0, 3, 3, 3, 3};
        for (int time = 0; time <= 4; time++) {
            x.due(bases[time], "listener", 0, 3);
            x.due(greatest[time], "listener", 0, 4);
            x.due(Math.max(0, time - 1), "listener", 0, 8);
            x.due(time == 1 ? 2 : 0, "listener", 0, 6);
            if (time < 4) {
                x.due(1, "tick", 1);
            }
        }
    }

    /** Not the base itself, but the next one; not the greatest, but the one ahead of it. */
    private static void whatIsMissed() {
        Check x = Check.loaded("section 3: missing", "radio 0;hears 0");
        x.due(1, "cancel", 0, 20);
        x.due(2, "cancel", 0, 20);
        x.due(2, "whole", 1);
        x.due(3, "cancel", 0, 20);
        x.due(4, "cancel", 0, 1);
        x.due(5, "cancel", 0, 20);
        x.due(6, "cancel", 0, 2);
        x.due(7, "cancel", 0, 20);
        x.due(1, "tick", 1);
        dueMissing(x, "3", 3);
        x.due(1, "tick", 1);
        dueMissing(x, "3,5", 3, 5);
        x.due(7, "whole", 1);
        x.due(2, "missingIn", 0, 0);
        x.due(0, "missingIn", 0, 1);
        x.due(1, "tick", 1);
        dueMissing(x, "*");
    }

    private static void dueMissing(Check x, String text, int... missing) {
        x.due(missing.length, "listener", 0, 6);
        for (int i = 0; i < missing.length; i++) {
            x.due(missing[i], "missing", 0, i);
        }
        x.due(-1, "missing", 0, missing.length);
        x.due(-1, "missing", 0, -1);
        x.due(text.length(), "writeMissing", 0);
        x.dueText(text);
    }

    /** The last of 99 corrections alone is heard, by one listener; none by the other. */
    private static void allAreMissed() {
        Check x = Check.loaded("section 3: all are missed", "radio 0;hears 0 off 1 98;hears 0 off 0 9999");
        for (int n = 1; n <= 99; n++) {
            x.due(n, "cancel", 0, 1);
            x.due(n, "behind", 0);
            dueMissing(x, "*");
            x.due(2, "tick", 1);
        }
        int[] missing = new int[98];
        for (int i = 0; i < 98; i++) {
            missing[i] = i + 1;
        }
        dueMissing(x, "1-98", missing);
        x.due(0, "behind", 0);
        x.due(99, "behind", 1);
        x.due(49.5, "meanBehind");
        x.due(0, "listener", 1, 6);
        x.due(99, "listener", 1, 11);
        x.due(197, "count", 11);
        x.due(1, "hasHeard", 0, 99);
        x.due(0, "hasHeard", 0, 98);
        x.due(0, "hasHeard", 0, 100);
        x.due(0, "hasHeard", 0, 0);
        x.due(1, "number", 99, 3);
        x.due(0, "number", 98, 3);
        x.due(0, "repeat", 1, 1);
        x.due(0, "repeat", 50, 1);
        x.due(0, "repeat", 98, 1);
        x.due(2, "tick", 1);
        x.due("2-49,51-97".length(), "writeMissing", 0);
        x.dueText("2-49,51-97");
        x.due(3, "listener", 0, 7);
    }

    /** Misses none and has heard of the latest correction: the published list, in the end. */
    private static void noneMissedIsPublished() {
        Check x = Check.loaded("section 3: misses none", "radio 0;stop 1 1 1 2;hears 0;hears 0 off 2 2");
        x.due(1, "cancel", 0, 1);
        x.due(2, "correct", 1, 5, 5, 5, 6, 2);
        x.due(3, "correct", 0, 6, 5, 5, 6, 3);
        x.due(1, "tick", 3);
        x.due(0, "listener", 0, 6);
        x.due(1, "listener", 0, 10);
        x.due(1, "listener", 1, 6);
        x.due(0, "listener", 1, 10);
        x.due(3, "whole", 1);
        x.due(2, "tick", 1);
        x.due(0, "listener", 1, 6);
        x.due(1, "listener", 1, 10);
    }

    private static void wholesAfter(Check x, int ticks, int sent) {
        x.answer("tick", ticks);
        x.due(sent, "count", 7);
    }

    private static void periods() {
        Check none = Check.loaded("section 4: PERIOD 0", "radio 0;hears 0");
        wholesAfter(none, 60, 0);
        wholesAfter(none, 60, 0);
        none.due(0, "count", 8);
        none.due(-1, "wholeIn");
        Check one = Check.loaded("section 4: PERIOD 1", "radio 1;hears 0");
        one.due(0, "count", 7);
        for (int time = 1; time <= 9; time++) {
            wholesAfter(one, 1, time);
            one.due(Math.min(time, 5), "count", 6);
            one.due(Math.max(0, time - 5), "listener", 0, 8);
            one.due(1, "wholeIn");
        }
        Check most = Check.loaded("section 4: PERIOD 99", "radio 99;hears 9");
        most.due(99, "wholeIn");
        wholesAfter(most, 60, 0);
        wholesAfter(most, 38, 0);
        most.due(1, "wholeIn");
        wholesAfter(most, 1, 1);
        most.due(99, "wholeIn");
        most.due(99, "onAir", 0, 2);
        most.due(5, "onAir", 0, 3);
        most.due(113, "onAir", 0, 4);
        most.answer("tick", 13);
        most.due(0, "listener", 0, 8);
        most.answer("tick", 1);
        most.due(1, "listener", 0, 8);
        wholesAfter(most, 60, 1);
        wholesAfter(most, 24, 1);
        wholesAfter(most, 1, 2);
    }

    private static void periodIsChanged() {
        Check x = Check.loaded("section 4: another PERIOD", "radio 7;hears 0");
        wholesAfter(x, 6, 0);
        x.due(7, "setPeriod", 6);
        // The time 6 has passed already; the next one is 12.
        x.due(6, "wholeIn");
        wholesAfter(x, 5, 0);
        wholesAfter(x, 1, 1);
        x.due(6, "setPeriod", 0);
        wholesAfter(x, 12, 1);
        x.due(0, "setPeriod", 99);
        wholesAfter(x, 60, 1);
        wholesAfter(x, 15, 2);
        x.due(99, "count", 3);
        x.due(99, "setPeriod", 99);
        x.due(99, "wholeIn");
    }

    /** With 29 on the air there is room, with 30 the list is left out, and not made up for. */
    private static void roomForTheOwnList() {
        for (int size = 29; size <= 30; size++) {
            Check x = Check.loaded("section 4: room", "radio 3;hears 0");
            for (int i = 0; i < size; i++) {
                x.due(0, "whole", 4);
            }
            x.due(1, "tick", 2);
            x.due(size, "count", 6);
            x.due(1, "wholeIn");
            x.due(1, "tick", 1);
            x.due(30, "count", 6);
            x.due(30, "count", 7);
            x.due(size - 29, "count", 8);
            x.due(1, "tick", 1);
            x.due(30 - size, "count", 6);
            x.due(30, "count", 7);
            x.due(1, "tick", 2);
            x.due(31, "count", 7);
            x.due(size - 29, "count", 8);
        }
        Check y = Check.loaded("section 4: room beside corrections", "radio 1;hears 0");
        for (int n = 1; n <= 30; n++) {
            y.due(n, "cancel", 0, 2);
        }
        y.due(1, "tick", 1);
        y.due(1, "count", 8);
        y.due(0, "count", 7);
        y.due(30, "count", 5);
    }

    private static void sixtyTicks() {
        Check x = Check.loaded("promise 45: 1 and 60", "radio 1;stop 1 1 1 2;hears 9;hears 9;hears 9");
        x.due(3, "tick", 60);
        x.due(60, "count", 3);
        x.due(60, "count", 7);
        x.due(1, "cancel", 0, 1);
        x.due(0, "tick", 1);
        x.due(61, "count", 3);
        x.due(0, "tick", 8);
        x.due(3, "tick", 1);
        x.refused(Check.ARGUMENT, "tick", 61);
        x.refused(Check.ARGUMENT, "tick", 0);
    }

    private static void overtaken() {
        Check x = Check.loaded("promise 25: none, some, all", "radio 0;hears 0 off 0 9999");
        x.due(0, "overtakes", 0);
        x.due(1, "cancel", 0, 3);
        x.due(0, "overtakes", 0);
        x.due(0, "repeat", 1, 3);
        x.due(1, "overtakes", 0);
        // A whole list at the same time is heard behind the correction of its number.
        x.due(1, "whole", 3);
        x.due(1, "overtakes", 0);
        x.due(1, "whole", 2);
        x.due(2, "overtakes", 0);
        x.due(0, "listener", 0, 7);
        x.due(1, "tick", 2);
        // The whole list came in a gap: it is not to come any more.
        x.due(1, "overtakes", 0);
        x.due(1, "tick", 1);
        x.due(0, "overtakes", 0);
        x.due(0, "count", 10);
        Check y = Check.loaded("promise 25: the most", "radio 0;hears 0;hears 9");
        y.due(1, "cancel", 0, 1);
        for (int i = 1; i < 30; i++) {
            y.due(0, "repeat", 1, 20);
        }
        y.due(29, "overtakes", 0);
        y.due(29, "overtakes", 1);
        y.due(2, "tick", 1);
        y.due(29, "overtakes", 0);
        y.due(29, "overtakes", 1);
        y.due(0, "fetch", 1);
        y.due(30, "overtakes", 1);
        // What was dropped before does not count, nor do whole lists that are not on the air yet.
        y.due(2, "tick", 19);
        y.due(29, "listener", 0, 7);
        y.due(0, "overtakes", 0);
        y.due(29, "overtakes", 1);
        y.due(2, "cancel", 0, 20);
        y.due(0, "setPeriod", 1);
        y.due(0, "overtakes", 0);
        y.due(29, "overtakes", 1);
    }

    /** The base becomes that of the latest correction only if this is greater. */
    private static void fetchedBase() {
        Check x = Check.loaded("promise 50: the base", "radio 0;hears 0");
        x.due(0, "fetch", 0);
        x.due(0, "listener", 0, 3);
        x.due(1, "undoable");
        x.due(1, "correct", 11, 1, 1, 1, 2, 20);
        x.due(1 << 11, "fetch", 0);
        x.due(1, "listener", 0, 3);
        x.due(0, "listener", 0, 4);
        x.due(0, "listener", 0, 8);
        x.due(0, "listener", 0, 6);
        x.due(1, "behind", 0);
        x.due(0, "hasHeard", 0, 1);
        x.due(1, "stop", 0, 11, 4);
        x.due(2, "cancel", 0, 20);
        x.due(3, "cancel", 0, 1);
        x.due(1, "tick", 1);
        // Above the fetched base 2 is missed, below it 1 is not.
        dueMissing(x, "2", 2);
        x.due(0, "fetch", 0);
        dueMissing(x, "*");
        x.due(3, "listener", 0, 3);
        x.due(0, "fetch", 0);
        x.due(3, "listener", 0, 3);
    }

    private static void gapsInOrder() {
        Check x = Check.loaded("promises 46 and 47", "radio 0;hears 0 off 7 8");
        x.due(2, "addGap", 0, 0, 0);
        x.due(3, "addGap", 0, 9999, 9999);
        x.due(4, "addGap", 0, 0, 9999);
        dueGaps(x, 7, 8, 0, 0, 9999, 9999, 0, 9999);
        x.due(3, "dropGap", 0, 0);
        dueGaps(x, 0, 0, 9999, 9999, 0, 9999);
        x.due(4, "addGap", 0, 5, 6);
        dueGaps(x, 0, 0, 9999, 9999, 0, 9999, 5, 6);
        x.due(3, "dropGap", 0, 3);
        x.due(2, "dropGap", 0, 1);
        dueGaps(x, 0, 0, 0, 9999);
        x.due(1, "dropGap", 0, 1);
        dueGaps(x, 0, 0);
        x.refused(Check.INDEX, "dropGap", 0, 1);
        x.due(0, "dropGap", 0, 0);
        dueGaps(x);
        x.refused(Check.INDEX, "dropGap", 0, 0);
        x.refused(Check.INDEX, "dropGap", 0, -1);
    }

    private static void dueGaps(Check x, int... times) {
        x.due(times.length / 2, "listener", 0, 1);
        for (int i = 0; i < times.length; i++) {
            x.due(times[i], "gap", 0, i / 2, i % 2);
        }
        x.due(-1, "gap", 0, times.length / 2, 0);
        x.due(-1, "gap", 0, -1, 1);
    }
}
