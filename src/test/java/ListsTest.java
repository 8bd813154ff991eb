/** Promises 7 to 16: the published list, what is on the air, where the bookmobile stands. */
public final class ListsTest {
    private static final int LEAST = Integer.MIN_VALUE;
    private static final int MOST = Integer.MAX_VALUE;
    private static final String WEEK = "radio 0;hears 0;stop 5 2 100 200;stop 6 2 150 300;"
            + "stop 5 2 290 310;stop 5 6 1400 1439;stop 0 2 120 130";

    public static void main(String[] args) {
        counts();
        leftOut();
        stops();
        air();
        orderOnAir();
        numbers();
        minutes();
        stands();
        nextAt();
        clashes();
        merging();
        mergingChains();
        Check.end();
    }

    private static void counts() {
        Check x = Check.loaded("promise 7", "radio 4;stop 1 0 0 10;stop 2 1 0 10;hears 0;hears 2 off 3 9");
        dueCounts(x, 2, 2, 4, 0, 0, 0, 0, 0, 0, 2, 0, 0);
        x.due(1, "correct", 0, 5, 0, 0, 9, 4);
        x.due(2, "cancel", 0, 1);
        x.due(2, "whole", 20);
        dueCounts(x, 1, 2, 4, 0, 2, 2, 1, 1, 0, 0, 0, 0);
        // Listener 0 hears 2 at 1 and drops 1 at 4; listener 1 is to hear them at 3 and 6.
        x.due(1, "tick", 4);
        dueCounts(x, 1, 2, 4, 4, 2, 1, 2, 2, 0, 1, 1, 1);
        x.due(0, "repeat", 1, 1);
        dueCounts(x, 1, 2, 4, 4, 2, 2, 2, 2, 0, 1, 1, 1);
        x.due(Check.ARGUMENT, "count", 12);
        x.due(Check.ARGUMENT, "count", -1);
        x.due(Check.ARGUMENT, "count", MOST);
        new Check("promise 7: no text").due(Check.STATE, "count", 12);
    }

    private static void leftOut() {
        Check x = Check.loaded("promise 7: left out", "radio 2;hears 0");
        for (int i = 0; i < 29; i++) {
            x.due(0, "whole", 4);
        }
        x.due(0, "whole", 1);
        x.due(Check.ARGUMENT, "whole", 1);
        dueCounts(x, 0, 1, 2, 0, 0, 0, 30, 30, 0, 1, 0, 0);
        // At 2 one whole list is gone, so one has room; at 4 there is none, as 29 are heard then.
        x.due(1, "tick", 2);
        dueCounts(x, 0, 1, 2, 2, 0, 0, 30, 31, 0, 1, 0, 0);
        x.due(1, "tick", 2);
        dueCounts(x, 0, 1, 2, 4, 0, 0, 1, 31, 1, 1, 0, 0);
    }

    private static void dueCounts(Check x, int... counts) {
        for (int what = 0; what < counts.length; what++) {
            x.due(counts[what], "count", what);
        }
    }

    private static void stops() {
        Check x = Check.loaded("promise 8", "radio 0;stop 29 6 1438 1439;hears 0;hears 1;stop 4 3 2 9");
        int[] first = {29, 6, 1438, 1439, 0};
        int[] second = {4, 3, 2, 9, 0};
        for (int what = 0; what < 5; what++) {
            x.due(first[what], "stop", -1, 0, what);
            x.due(second[what], "stop", 1, 1, what);
            x.due(what == 4 ? 0 : -1, "stop", 0, 2, what);
        }
        x.due(1, "correct", 11, 7, 2, 3, 4, 1);
        x.due(2, "cancel", 0, 2);
        x.due(7, "stop", -1, 11, 0);
        x.due(1, "stop", -1, 11, 4);
        x.due(-1, "stop", 0, 11, 0);
        x.due(-1, "stop", -1, 0, 3);
        x.due(2, "stop", -1, 0, 4);
        x.due(0, "tick", 1);
        x.due(3, "stop", 0, 11, 2);
        x.due(1, "stop", 0, 11, 4);
        x.due(-1, "stop", 1, 11, 0);
        x.due(Check.INDEX, "stop", 2, 0, 9);
        x.due(Check.INDEX, "stop", -2, 0, 0);
        x.due(Check.INDEX, "stop", 0, -1, 9);
        x.due(Check.INDEX, "stop", 0, 12, 0);
        x.due(Check.INDEX, "stop", MOST, LEAST, 0);
        x.due(Check.ARGUMENT, "stop", 0, 0, 5);
        x.due(Check.ARGUMENT, "stop", -1, 0, -1);
        new Check("promise 8: no text").due(Check.STATE, "stop", 9, 99, 9);
    }

    private static void air() {
        Check x = Check.loaded("promise 9", "radio 0;hears 5;hears 2;hears 9 off 0 99");
        x.due(Check.INDEX, "onAir", 0, 9);
        x.due(1, "cancel", 3, 4);
        dueOnAir(x, 0, 1, 3, 0, 4, 6, 7);
        x.due(3, "tick", 6);
        dueOnAir(x, 0, 1, 3, 0, 4, 6, 5);
        x.due(3, "tick", 3);
        dueOnAir(x, 0, 1, 3, 0, 4, 6, 4);
        x.due(Check.INDEX, "onAir", 1, 0);
        x.due(Check.INDEX, "onAir", -1, 9);
        x.due(Check.INDEX, "onAir", LEAST, 0);
        x.due(Check.ARGUMENT, "onAir", 0, 6);
        x.due(Check.ARGUMENT, "onAir", 0, -1);
        x.due(3, "tick", 4);
        x.due(Check.INDEX, "onAir", 0, 0);
        new Check("promise 9: no text").due(Check.STATE, "onAir", 0, 9);
    }

    private static void orderOnAir() {
        Check x = Check.loaded("promise 9: the order", "radio 0;hears 0;hears 9");
        x.due(0, "whole", 5);
        x.due(1, "cancel", 0, 5);
        x.due(1, "whole", 5);
        x.due(2, "tick", 1);
        x.due(0, "repeat", 1, 4);
        x.due(2, "cancel", 1, 2);
        x.due(3, "cancel", 2, 6);
        x.due(1, "repeat", 2, 4);
        dueOnAir(x, 0, 2, 1, 1, 2, 3, 3);
        dueOnAir(x, 1, 0, -1, 0, 5, 5, 3);
        dueOnAir(x, 2, 1, 0, 0, 5, 5, 3);
        dueOnAir(x, 3, 1, 0, 1, 4, 5, 3);
        dueOnAir(x, 4, 1, -1, 0, 5, 5, 3);
        dueOnAir(x, 5, 2, 1, 1, 4, 5, 3);
        dueOnAir(x, 6, 3, 2, 1, 6, 7, 3);
        x.due(Check.INDEX, "onAir", 7, 0);
        // Number 2 ends at 12, ahead of all others; their order stays.
        x.due(2, "tick", 11);
        dueOnAir(x, 0, 0, -1, 0, 5, 5, 2);
        dueOnAir(x, 1, 1, 0, 0, 5, 5, 2);
        dueOnAir(x, 5, 3, 2, 1, 6, 7, 2);
        x.due(Check.INDEX, "onAir", 6, 0);
    }

    private static void dueOnAir(Check x, int i, int... properties) {
        for (int what = 0; what < properties.length; what++) {
            x.due(properties[what], "onAir", i, what);
        }
    }

    private static void numbers() {
        Check x = Check.loaded("promise 10", "radio 0;hears 1;hears 3 off 4 4;hears 0");
        x.due(Check.ARGUMENT, "number", 1, 0);
        x.due(3, "tick", 2);
        x.due(1, "correct", 7, 12, 3, 4, 5, 1);
        x.due(2, "cancel", 7, 3);
        dueNumber(x, 1, 7, 12, 2, 0, 1);
        dueNumber(x, 2, 7, -1, 2, 0, 1);
        x.due(1, "tick", 2);
        dueNumber(x, 1, 7, 12, 2, 5, 1);
        x.due(2, "tick", 2);
        dueNumber(x, 1, 7, 12, 2, 7, 0);
        dueNumber(x, 2, 7, -1, 2, 5, 1);
        x.due(7, "repeat", 1, 2);
        dueNumber(x, 1, 7, 12, 2, 7, 1);
        for (int n : new int[] {0, -1, 3, 99, 100, LEAST, MOST}) {
            x.due(Check.ARGUMENT, "number", n, 0);
        }
        x.due(Check.ARGUMENT, "number", 1, 5);
        x.due(Check.ARGUMENT, "number", 1, -1);
        new Check("promise 10: no text").due(Check.STATE, "number", 0, 9);
    }

    private static void dueNumber(Check x, int n, int... properties) {
        for (int what = 0; what < properties.length; what++) {
            x.due(properties[what], "number", n, what);
        }
    }

    private static void minutes() {
        Check x = Check.loaded("promise 11", WEEK);
        x.due(149, "minutes", -1, 5);
        x.due(100, "minutes", -1, 6);
        x.due(0, "minutes", -1, 0);
        x.due(0, "minutes", 0, 29);
        x.due(1, "correct", 1, 6, 2, 1000, 1010, 1);
        x.due(10, "minutes", -1, 6);
        x.due(159, "minutes", -1, 5);
        x.due(100, "minutes", 0, 6);
        x.due(149, "minutes", 0, 5);
        x.due(Check.INDEX, "minutes", 1, 30);
        x.due(Check.INDEX, "minutes", -2, 0);
        x.due(Check.ARGUMENT, "minutes", -1, 30);
        x.due(Check.ARGUMENT, "minutes", 0, -1);
        new Check("promise 11: no text").due(Check.STATE, "minutes", 9, 99);
        Check y = Check.loaded("promise 11: a whole week", "radio 0;hears 1;stop 1 0 0 1439;"
                + "stop 1 1 0 1439;stop 1 2 0 1439;stop 1 3 0 1439;stop 1 4 0 1439;stop 1 5 0 1439;"
                + "stop 1 6 0 1439;stop 1 6 5 9");
        y.due(7 * 1439, "minutes", 0, 1);
    }

    private static void stands() {
        Check x = Check.loaded("promise 12", WEEK);
        int[] minutes = {0, 99, 100, 125, 150, 199, 200, 289, 295, 299, 300, 309, 310, 1439};
        int[] places = {-1, -1, 5, 5, 5, 5, 6, 6, 6, 6, 5, 5, -1, -1};
        for (int i = 0; i < minutes.length; i++) {
            x.due(places[i], "stands", -1, 2, minutes[i]);
            x.due(places[i], "stands", 0, 2, minutes[i]);
        }
        x.due(5, "stands", -1, 6, 1438);
        x.due(-1, "stands", -1, 6, 1439);
        x.due(-1, "stands", -1, 1, 100);
        x.due(1, "cancel", 0, 1);
        x.due(0, "stands", -1, 2, 125);
        x.due(5, "stands", 0, 2, 125);
        x.due(Check.INDEX, "stands", 1, 9, 0);
        x.due(Check.INDEX, "stands", -2, 0, 0);
        x.due(Check.ARGUMENT, "stands", 0, 7, 0);
        x.due(Check.ARGUMENT, "stands", 0, -1, 0);
        x.due(Check.ARGUMENT, "stands", 0, 0, 1440);
        x.due(Check.ARGUMENT, "stands", 0, 0, -1);
        new Check("promise 12: no text").due(Check.STATE, "stands", 9, 9, 0);
    }

    private static void nextAt() {
        Check x = Check.loaded("promise 13", WEEK);
        x.due(100, "nextAt", -1, 2, 0);
        x.due(150, "nextAt", -1, 2, 150);
        x.due(309, "nextAt", 0, 2, 309);
        x.due(-1, "nextAt", -1, 2, 310);
        x.due(1400, "nextAt", -1, 6, 0);
        x.due(1438, "nextAt", -1, 6, 1438);
        x.due(-1, "nextAt", -1, 6, 1439);
        x.due(-1, "nextAt", -1, 0, 0);
        x.due(1, "cancel", 1, 1);
        x.due(290, "nextAt", -1, 2, 200);
        x.due(200, "nextAt", 0, 2, 200);
        x.due(Check.INDEX, "nextAt", 1, 9, 0);
        x.due(Check.INDEX, "nextAt", -2, 0, 0);
        x.due(Check.ARGUMENT, "nextAt", 0, 7, 0);
        x.due(Check.ARGUMENT, "nextAt", 0, -1, 0);
        x.due(Check.ARGUMENT, "nextAt", 0, 0, 1440);
        x.due(Check.ARGUMENT, "nextAt", 0, 0, -1);
        new Check("promise 13: no text").due(Check.STATE, "nextAt", 9, 9, 0);
    }

    private static void clashes() {
        Check x = Check.loaded("promise 14", WEEK);
        x.due(3, "clashes", -1);
        x.due(1, "cancel", 1, 1);
        x.due(1, "clashes", -1);
        x.due(3, "clashes", 0);
        x.due(Check.INDEX, "clashes", 1);
        x.due(Check.INDEX, "clashes", -2);
        new Check("promise 14: no text").due(Check.STATE, "clashes", 9);
        Check y = Check.loaded("promise 14: no clash", "radio 0;hears 0;stop 1 0 10 20;"
                + "stop 2 0 20 30;stop 3 1 10 30;stop 1 0 15 25");
        // Only the stops of the slots 1 and 3 have minutes in common.
        y.due(1, "clashes", -1);
    }

    private static void merging() {
        Check x = Check.loaded("promises 15 and 16", "radio 0;hears 0;stop 4 1 100 200;"
                + "stop 4 1 300 400;stop 4 1 200 300;stop 3 1 100 150;stop 3 1 151 160;"
                + "stop 4 2 150 250;stop 9 1 50 60;stop 9 1 55 58");
        int[][] stops = {{9, 50, 60, 2}, {3, 100, 150, 1}, {4, 100, 400, 3}, {3, 151, 160, 1}};
        x.due(4, "merged", -1, 1);
        dueMerged(x, -1, 1, stops);
        x.due(1, "merged", 0, 2);
        dueMerged(x, 0, 2, new int[][] {{4, 150, 250, 1}});
        x.due(0, "merged", -1, 0);
        dueMerged(x, -1, 0, new int[0][4]);
        dueMerged(x, -1, 1, stops);
        x.due(0, "merged", -1, 6);
        x.due(-1, "mergedStop", -1, 6, 0, 0);
        x.due(1, "cancel", 2, 1);
        x.due(5, "merged", -1, 1);
        x.due(4, "merged", 0, 1);
        dueMerged(x, 0, 1, stops);
        x.due(-1, "mergedStop", -1, 1, LEAST, 0);
        x.due(-1, "mergedStop", -1, 1, MOST, 3);
        x.due(Check.INDEX, "merged", 1, 9);
        x.due(Check.INDEX, "merged", -2, 0);
        x.due(Check.ARGUMENT, "merged", 0, 7);
        x.due(Check.ARGUMENT, "merged", -1, -1);
        x.due(Check.INDEX, "mergedStop", 1, 9, 0, 0);
        x.due(Check.ARGUMENT, "mergedStop", 0, 7, 0, 0);
        x.due(Check.ARGUMENT, "mergedStop", 0, -1, 0, 0);
        x.due(Check.ARGUMENT, "mergedStop", 0, 1, 99, 4);
        x.due(Check.ARGUMENT, "mergedStop", 0, 1, 0, -1);
        new Check("promise 15: no text").due(Check.STATE, "merged", 9, 9);
        new Check("promise 16: no text").due(Check.STATE, "mergedStop", 9, 9, 0, 9);
    }

    private static void dueMerged(Check x, int l, int day, int[][] stops) {
        for (int i = 0; i < stops.length; i++) {
            for (int what = 0; what < 4; what++) {
                x.due(stops[i][what], "mergedStop", l, day, i, what);
            }
        }
        x.due(-1, "mergedStop", l, day, stops.length, 0);
        x.due(-1, "mergedStop", l, day, -1, 0);
    }

    private static void mergingChains() {
        Check x = Check.loaded("promise 16: chains", "radio 0;hears 0;stop 1 0 900 1100;"
                + "stop 1 0 10 20;stop 1 0 0 1000;stop 0 0 0 5;stop 1 0 1101 1102");
        x.due(3, "merged", -1, 0);
        dueMerged(x, -1, 0, new int[][] {{0, 0, 5, 1}, {1, 0, 1100, 3}, {1, 1101, 1102, 1}});
        StringBuilder text = new StringBuilder("radio 0;hears 0");
        for (int k = 12; k > 0; k--) {
            text.append(";stop ").append(k).append(" 3 ").append(k * 2).append(' ').append(99);
        }
        Check y = Check.loaded("promise 15: twelve stops", text.toString());
        y.due(12, "merged", 0, 3);
        y.due(1, "mergedStop", 0, 3, 0, 0);
        y.due(12, "mergedStop", 0, 3, 11, 0);
        y.due(24, "mergedStop", 0, 3, 11, 1);
        y.due(66, "clashes", 0);
    }
}
