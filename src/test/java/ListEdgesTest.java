/** Sections 1 and 5 at their bounds: slots, stops, lists, where the bookmobile stands, merging. */
public final class ListEdgesTest {
    private static final int DAY_LONG = 1439;

    public static void main(String[] args) {
        allSlots();
        slotsOfAText();
        extremeStops();
        versions();
        alikeAtFirst();
        sameLists();
        firstAndLastMinute();
        smallestSlotStands();
        minutesOfAWholeWeek();
        minutesOfWhatIsCovered();
        nextMinutes();
        nowhereAndSomewhere();
        mostWrongMinutes();
        worstOfSeveral();
        clashEdges();
        touchingStops();
        mergedAgainAndAgain();
        orderOfMerged();
        emptyAndFullDays();
        shares();
        Check.end();
    }

    /** Slots 0 to 11 take a correction and a cancelling, in the published list and in others. */
    private static void allSlots() {
        Check x = Check.loaded("section 1: 12 slots", "radio 0;hears 0");
        for (int k = 0; k < 12; k++) {
            x.due(k, "count", 0);
            x.due(k + 1, "correct", k, k, 3, k, 100 + k, 1);
        }
        x.due(12, "count", 0);
        x.due(4095, "listener", 0, 9);
        x.due(0f, "sameShare");
        x.due(1, "tick", 1);
        for (int k = 0; k < 12; k++) {
            x.due(k, "stop", 0, k, 0);
            x.due(k + 1, "stop", 0, k, 4);
            x.due(13 + k, "cancel", k, 1);
            x.due(11 - k, "count", 0);
            x.due(k, "stop", 0, k, 0);
            x.due(-1, "stop", -1, k, 0);
        }
        x.due(4095, "fetch", 0);
        x.due(-1, "stop", 0, 11, 3);
        x.due(24, "stop", 0, 11, 4);
        x.refused(Check.INDEX, "correct", 12, 0, 0, 0, 1, 1);
        x.refused(Check.INDEX, "cancel", 12, 1);
        x.refused(Check.INDEX, "stop", -1, 12, 0);
        x.refused(Check.INDEX, "stop", 0, -1, 0);
    }

    /** The stops of a text fill the slots in their order; the further ones are free. */
    private static void slotsOfAText() {
        StringBuilder text = new StringBuilder("radio 0;hears 0");
        for (int k = 0; k <= 12; k++) {
            Check x = Check.loaded("section 6: slots of " + k, text.toString());
            x.due(k, "count", 0);
            for (int slot = 0; slot < 12; slot++) {
                x.due(slot < k ? slot + 10 : -1, "stop", -1, slot, 0);
                x.due(slot < k ? slot + 10 : -1, "stop", 0, slot, 0);
                x.due(0, "stop", 0, slot, 4);
            }
            text.append(";stop ").append(k + 10).append(" 1 1 2");
        }
    }

    private static void extremeStops() {
        Check x = Check.loaded("section 1: bounds of a stop",
                "radio 0;stop 0 0 0 1;stop 29 6 1438 1439;stop 29 0 0 1439;hears 9");
        x.due(1, "correct", 3, 0, 0, 0, 1, 1);
        x.due(2, "correct", 4, 29, 6, 1438, 1439, 20);
        x.due(3, "correct", 5, 29, 0, 0, 1439, 1);
        int[][] stops = {{0, 0, 0, 1}, {29, 6, 1438, 1439}, {29, 0, 0, 1439}};
        for (int k = 0; k < 6; k++) {
            for (int what = 0; what < 4; what++) {
                x.due(stops[k % 3][what], "stop", -1, k, what);
            }
        }
        x.refused(Check.ARGUMENT, "correct", 0, 30, 0, 0, 1, 1);
        x.refused(Check.ARGUMENT, "correct", 0, 0, 7, 0, 1, 1);
        x.refused(Check.ARGUMENT, "correct", 0, 0, 0, 1439, 1439, 1);
        x.refused(Check.ARGUMENT, "correct", 0, 0, 0, 1439, 1440, 1);
        x.refused(Check.ARGUMENT, "correct", 0, 0, 0, 1438, 1440, 1);
        x.refused(Check.ARGUMENT, "correct", 0, 0, 0, 1438, 1438, 1);
        x.refused(Check.ARGUMENT, "correct", 0, 0, 0, 0, 0, 1);
        x.refused(Check.ARGUMENT, "correct", 0, 0, 0, -1, 0, 1);
        x.refused(Check.ARGUMENT, "correct", 0, -1, 0, 0, 1, 1);
        x.refused(Check.ARGUMENT, "correct", 0, 0, -1, 0, 1, 1);
    }

    /** The version is told of free slots, too: 0 if no correction told it, else the last one. */
    private static void versions() {
        Check x = Check.loaded("section 1: versions", "radio 0;stop 1 1 1 2;hears 0");
        x.due(0, "stop", -1, 0, 4);
        x.due(0, "stop", -1, 11, 4);
        x.due(1, "cancel", 11, 2);
        x.due(1, "stop", -1, 11, 4);
        x.due(-1, "stop", -1, 11, 0);
        x.due(0, "stop", 0, 11, 4);
        x.due(2, "cancel", 11, 1);
        x.due(2, "stop", -1, 11, 4);
        x.due(0, "stop", -1, 0, 4);
        x.due(1, "tick", 2);
        x.due(2, "stop", 0, 11, 4);
    }

    private static void alikeAtFirst() {
        Check x = Check.loaded("section 1: at first", "radio 0" + ";stop 7 5 3 9".repeat(12)
                + ";hears 0;hears 1;hears 2;hears 3;hears 4;hears 9");
        x.due(6, "count", 9);
        for (int l = -1; l < 6; l++) {
            for (int other = -1; other < 6; other++) {
                x.due(1, "isSame", l, other);
            }
            for (int k = 0; k < 12; k++) {
                x.due(0, "stop", l, k, 4);
                x.due(5, "stop", l, k, 1);
            }
        }
        x.due(Check.INDEX, "isSame", -1, 6);
        x.due(Check.INDEX, "isSame", 6, -1);
        x.due(1f, "sameShare");
        x.due(0, "allSameIn");
    }

    /** One of PLACE, DAY, FROM and TO that differs is enough; versions do not matter. */
    private static void sameLists() {
        int[] stop = {8, 3, 100, 200};
        for (int what = -1; what < 4; what++) {
            Check x = Check.loaded("section 1: the same", "radio 0;stop 8 3 100 200;hears 0");
            int[] told = stop.clone();
            if (what >= 0) {
                told[what]++;
            }
            x.due(1, "correct", 0, told[0], told[1], told[2], told[3], 1);
            x.due(what < 0 ? 1 : 0, "isSame", -1, 0);
            x.due(what < 0 ? 1 : 0, "isSame", 0, -1);
            x.due(what < 0 ? 0 : 1, "listener", 0, 9);
            x.due(what < 0 ? 1 : 0, "listener", 0, 10);
            x.due(what < 0 ? 1 : 0, "count", 9);
        }
        Check y = Check.loaded("section 1: both free", "radio 0;stop 8 3 100 200;hears 0");
        y.due(1, "cancel", 11, 1);
        y.due(1, "isSame", 0, -1);
        y.due(2, "cancel", 0, 1);
        y.due(0, "isSame", 0, -1);
        y.due(1, "listener", 0, 9);
        y.due(3, "correct", 11, 8, 3, 100, 200, 1);
        y.due((1 << 11) + 1, "listener", 0, 9);
    }

    private static void firstAndLastMinute() {
        Check x = Check.loaded("section 1: minutes of a stop",
                "radio 0;stop 1 0 0 1;stop 2 6 1438 1439;stop 3 3 10 20;hears 0");
        int[][] minutes = {{0, 0, 1}, {0, 1, -1}, {0, 1439, -1}, {6, 1437, -1}, {6, 1438, 2},
            {6, 1439, -1}, {6, 0, -1}, {3, 9, -1}, {3, 10, 3}, {3, 19, 3}, {3, 20, -1}, {1, 0, -1}};
        for (int[] m : minutes) {
            x.due(m[2], "stands", -1, m[0], m[1]);
            x.due(m[2], "stands", 0, m[0], m[1]);
        }
        x.due(1, "minutes", -1, 1);
        x.due(1, "minutes", -1, 2);
        x.due(10, "minutes", 0, 3);
    }

    /** Twelve stops at one minute: the smallest slot counts, each in turn as those ahead go. */
    private static void smallestSlotStands() {
        StringBuilder text = new StringBuilder("radio 0;hears 0");
        for (int k = 0; k < 12; k++) {
            text.append(";stop ").append(29 - k).append(" 4 50 60");
        }
        Check x = Check.loaded("section 1: several", text.toString());
        for (int k = 0; k < 12; k++) {
            x.due(29 - k, "stands", -1, 4, 55);
            x.due(10, "minutes", -1, 29 - k);
            x.due(0, "minutes", -1, 28 - k);
            x.due(k + 1, "cancel", k, 1);
        }
        x.due(-1, "stands", -1, 4, 55);
        x.due(-1, "nextAt", -1, 4, 0);
        x.due(29, "stands", 0, 4, 55);
        x.due(13, "correct", 11, 0, 4, 0, DAY_LONG, 1);
        x.due(14, "correct", 0, 5, 4, 55, 56, 1);
        x.due(5, "stands", -1, 4, 55);
        x.due(0, "stands", -1, 4, 54);
        x.due(0, "stands", -1, 4, 56);
    }

    private static void minutesOfAWholeWeek() {
        StringBuilder text = new StringBuilder("radio 0;hears 0");
        for (int day = 0; day < 7; day++) {
            text.append(";stop 29 ").append(day).append(" 0 1439");
        }
        Check x = Check.loaded("promise 11: all the week", text.toString());
        x.due(10073, "minutes", -1, 29);
        x.due(10073, "minutes", 0, 29);
        x.due(0, "minutes", -1, 0);
        for (int day = 0; day < 7; day++) {
            x.due(-1, "stands", -1, day, 1439);
            x.due(-1, "nextAt", -1, day, 1439);
            x.due(1438, "nextAt", -1, day, 1438);
            x.due(0, "nextAt", -1, day, 0);
        }
        Check y = Check.loaded("promise 11: an empty list", "radio 0;hears 0");
        for (int place = 0; place < 30; place++) {
            y.due(0, "minutes", -1, place);
        }
    }

    /** Minutes at which a smaller slot has the bookmobile elsewhere do not count. */
    private static void minutesOfWhatIsCovered() {
        Check x = Check.loaded("promise 11: covered", "radio 0;stop 1 2 100 200;stop 2 2 100 200;"
                + "stop 3 2 99 201;stop 1 2 200 201;stop 2 3 5 6;hears 0");
        x.due(100, "minutes", -1, 1);
        x.due(1, "minutes", -1, 2);
        x.due(2, "minutes", -1, 3);
        x.due(3, "stands", -1, 2, 200);
        // The same place twice counts each minute once.
        Check y = Check.loaded("promise 11: twice", "radio 0;stop 1 2 0 50;stop 1 2 40 60;hears 0");
        y.due(60, "minutes", 0, 1);
    }

    private static void nextMinutes() {
        Check x = Check.loaded("promise 13", "radio 0;stop 1 2 100 101;stop 2 2 50 60;hears 0");
        int[][] minutes = {{0, 50}, {49, 50}, {50, 50}, {59, 59}, {60, 100}, {99, 100}, {100, 100},
            {101, -1}, {1439, -1}};
        for (int[] m : minutes) {
            x.due(m[1], "nextAt", -1, 2, m[0]);
            x.due(-1, "nextAt", -1, 1, m[0]);
            x.due(-1, "nextAt", 0, 3, m[0]);
        }
    }

    private static void nowhereAndSomewhere() {
        Check x = Check.loaded("promise 22", "radio 0;stop 0 0 0 1;hears 0;hears 5");
        x.due(0, "wrongMinutes", 0);
        x.due(1, "cancel", 0, 1);
        // PLACE 0 and nowhere differ, in either list.
        x.due(1, "wrongMinutes", 0);
        x.due(1, "tick", 1);
        x.due(0, "wrongMinutes", 0);
        x.due(1, "wrongMinutes", 1);
        x.due(1, "worst");
        x.due(2, "correct", 1, 0, 6, 1438, 1439, 1);
        x.due(1, "wrongMinutes", 0);
        x.due(2, "wrongMinutes", 1);
        x.due(1, "worst");
    }

    private static void mostWrongMinutes() {
        StringBuilder text = new StringBuilder("radio 0;hears 0");
        for (int day = 0; day < 7; day++) {
            text.append(";stop 1 ").append(day).append(" 0 1439");
        }
        Check x = Check.loaded("promise 22: all the week", text.toString());
        for (int day = 0; day < 7; day++) {
            x.due(day + 1, "correct", day, 2, day, 0, DAY_LONG, 1);
            x.due((day + 1) * DAY_LONG, "wrongMinutes", 0);
        }
        x.due(0, "wrongIn", 0, 1);
        x.due(7 * DAY_LONG, "wrongIn", 0, 0);
    }

    private static void worstOfSeveral() {
        Check x = Check.loaded("promise 23", "radio 0;stop 1 0 0 9;hears 9;hears 9;hears 0;hears 9");
        x.due(0, "worst");
        x.due(1, "cancel", 0, 1);
        x.due(0, "worst");
        x.due(1, "fetch", 0);
        x.due(2, "tick", 1);
        // Listeners 1 and 3 are wrong alike.
        x.due(1, "worst");
        x.due(1, "fetch", 1);
        x.due(3, "worst");
        Check y = Check.loaded("promise 23: the last one", "radio 0;stop 1 0 0 9"
                + ";hears 0;hears 0;hears 0;hears 0;hears 0;hears 1");
        y.due(1, "cancel", 0, 1);
        y.due(0, "worst");
        y.due(5, "tick", 1);
        y.due(5, "worst");
        y.due(6, "tick", 1);
        y.due(0, "worst");
    }

    private static void clashEdges() {
        // One minute in common is enough; an end that is a beginning is no minute in common.
        clash(1, "stop 1 0 10 20;stop 2 0 19 30");
        clash(0, "stop 1 0 10 20;stop 2 0 20 30");
        clash(1, "stop 2 0 19 30;stop 1 0 10 20");
        clash(0, "stop 2 0 20 30;stop 1 0 10 20");
        clash(1, "stop 0 6 1438 1439;stop 29 6 0 1439");
        clash(0, "stop 1 0 10 20;stop 1 0 10 20");
        clash(0, "stop 1 0 10 20;stop 2 1 10 20");
        clash(1, "stop 1 0 10 20;stop 2 0 10 20");
        clash(1, "stop 1 0 10 20;stop 2 0 12 13");
        clash(0, "stop 1 0 10 20");
        Check x = Check.loaded("promise 14: empty", "radio 0;hears 0");
        x.due(0, "clashes", -1);
        x.due(0, "clashes", 0);
        StringBuilder text = new StringBuilder("radio 0;hears 0");
        for (int k = 0; k < 12; k++) {
            text.append(";stop ").append(k).append(" 6 1438 1439");
        }
        Check.loaded("promise 14: the most", text.toString()).due(66, "clashes", 0);
    }

    private static void clash(int want, String stops) {
        Check x = Check.loaded("promise 14: " + stops, "radio 0;hears 0;" + stops);
        x.due(want, "clashes", -1);
        x.due(want, "clashes", 0);
    }

    private static void merged(String want, String stops) {
        Check x = Check.loaded("section 5: " + stops, "radio 0;hears 0;" + stops);
        for (int l = -1; l < 1; l++) {
            x.due(want.length(), "writeDay", l, 2);
            x.dueText(want);
            int size = want.equals("-") ? 0 : want.split(" ").length;
            x.due(size, "merged", l, 2);
            x.due(-1, "mergedStop", l, 2, size, 0);
            x.due(-1, "mergedStop", l, 2, -1, 3);
            for (int i = 0; i < size; i++) {
                String[] numbers = want.split(" ")[i].split("[@-]");
                for (int what = 0; what < 3; what++) {
                    x.due(numbers[what], "mergedStop", l, 2, i, what);
                }
            }
        }
    }

    private static void touchingStops() {
        merged("1@10-30", "stop 1 2 10 20;stop 1 2 20 30");
        merged("1@10-30", "stop 1 2 20 30;stop 1 2 10 20");
        merged("1@10-20 1@21-30", "stop 1 2 10 20;stop 1 2 21 30");
        merged("1@10-20 1@21-30", "stop 1 2 21 30;stop 1 2 10 20");
        merged("1@10-30", "stop 1 2 10 20;stop 1 2 19 30");
        merged("1@10-20", "stop 1 2 10 20;stop 1 2 10 20");
        merged("1@10-20", "stop 1 2 12 15;stop 1 2 10 20");
        merged("1@10-20 2@20-30", "stop 1 2 10 20;stop 2 2 20 30");
        merged("1@10-20", "stop 1 2 10 20;stop 1 3 20 30;stop 1 1 5 10");
        merged("0@0-1439", "stop 0 2 1438 1439;stop 0 2 0 1;stop 0 2 1 1438");
        merged("0@0-1 0@2-1437 0@1438-1439", "stop 0 2 1438 1439;stop 0 2 0 1;stop 0 2 2 1437");
    }

    /** A stop in the middle joins two that were apart, whatever the order of the slots. */
    private static void mergedAgainAndAgain() {
        merged("1@0-60", "stop 1 2 0 10;stop 1 2 50 60;stop 1 2 10 20;stop 1 2 40 50;stop 1 2 20 40");
        merged("1@0-60", "stop 1 2 20 40;stop 1 2 40 50;stop 1 2 10 20;stop 1 2 50 60;stop 1 2 0 10");
        // A long stop ends behind a shorter one that begins later, and joins one behind that.
        merged("1@0-60", "stop 1 2 5 6;stop 1 2 50 60;stop 1 2 0 50");
        Check x = Check.loaded("promise 16: how many", "radio 0;hears 0" + ";stop 3 2 4 5".repeat(12));
        x.due(1, "merged", -1, 2);
        x.due(12, "mergedStop", -1, 2, 0, 3);
        for (int k = 0; k < 11; k++) {
            x.due(k + 1, "cancel", k, 1);
            x.due(11 - k, "mergedStop", -1, 2, 0, 3);
        }
        x.due(1, "merged", -1, 2);
        x.due(12, "mergedStop", 0, 2, 0, 3);
        x.due(12, "cancel", 11, 1);
        x.due(0, "merged", -1, 2);
        x.due(-1, "mergedStop", -1, 2, 0, 3);
    }

    private static void orderOfMerged() {
        merged("9@10-20 1@11-20", "stop 1 2 11 20;stop 9 2 10 20");
        merged("1@10-20 2@10-12 9@10-15", "stop 9 2 10 15;stop 1 2 10 20;stop 2 2 10 12");
        // What counts is the FROM of what is merged, not of the stop in the smallest slot.
        merged("5@10-30 4@15-16", "stop 5 2 20 30;stop 4 2 15 16;stop 5 2 10 20");
    }

    private static void emptyAndFullDays() {
        merged("-", "stop 1 1 10 20;stop 1 3 10 20");
        StringBuilder stops = new StringBuilder();
        StringBuilder want = new StringBuilder();
        for (int i = 0; i < 12; i++) {
            stops.append(i > 0 ? ";" : "").append("stop 29 2 ").append(1410 - i * 2).append(' ')
                    .append(1411 - i * 2);
            want.append(i > 0 ? " " : "").append("29@").append(1388 + i * 2).append('-')
                    .append(1389 + i * 2);
        }
        merged(want.toString(), stops.toString());
        Check x = Check.loaded("promises 15 and 38: days 0 and 6",
                "radio 0;hears 0;stop 10 0 0 1;stop 9 6 1000 1439");
        x.due(6, "writeDay", -1, 0);
        x.dueText("10@0-1");
        x.due(11, "writeDay", 0, 6);
        x.dueText("9@1000-1439");
    }

    /** The share is of all slots of all listeners: none, one less than all, all. */
    private static void shares() {
        Check x = Check.loaded("promise 36", "radio 0" + ";stop 1 1 1 2".repeat(12) + ";hears 0;hears 1"
                + ";hears 2;hears 3;hears 4;hears 5");
        x.due(1f, "sameShare");
        for (int k = 0; k < 12; k++) {
            x.due(k + 1, "cancel", k, 1);
            x.due((float) (66 - 6 * k) / 72f, "sameShare");
        }
        x.due(0f, "sameShare");
        for (int l = 0; l < 6; l++) {
            x.due(l + 1, "tick", 1);
            x.due((float) (12 * (l + 1)) / 72f, "sameShare");
        }
        Check y = Check.loaded("promise 36: one slot", "radio 0;hears 0;hears 1;hears 2;hears 3"
                + ";hears 4;hears 5");
        y.due(1, "correct", 11, 0, 0, 0, 1, 1);
        y.due(66f / 72f, "sameShare");
        y.due(5, "tick", 5);
        y.due(71f / 72f, "sameShare");
    }
}
