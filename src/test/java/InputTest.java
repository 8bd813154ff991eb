/** Promises 1 to 6: a new object, the input buffer, the text format and its errors. */
public final class InputTest {
    private static final int BLANKS = 0x20202020;

    public static void main(String[] args) {
        newObject();
        appending();
        loading();
        boundsOfLoading();
        partOfTheBuffer();
        failedLoadKeepsRadio();
        loadReplacesAll();
        wordsAndNumbers();
        grammar();
        bounds();
        tooMany();
        fullText();
        Check.end();
    }

    private static void newObject() {
        Check x = new Check("promise 1");
        x.due(0, "buffered");
        x.due(0, "parseError");
        x.due(-1, "errorPosition");
        x.due(0, "undoable");
        x.due(Check.STATE, "count", 0);
        x.due(Check.STATE, "undo");
        x.due(Check.STATE, "save", 0);
        x.due(Check.STATE, "restore", 0);
        x.due(Check.INDEX, "restore", 2);
        x.due(Check.INDEX, "textByte", 0);
    }

    private static void appending() {
        Check x = new Check("promise 2");
        // "radio 7;hears 3 off " and "12 345" tell the order of the bytes in the arguments.
        x.due(20, "append", 0x72616469, 0x6f20373b, 0x68656172, 0x73203320, 0x6f666620);
        x.due(40, "append", 0x31322033, 0x34352020, BLANKS, BLANKS, BLANKS);
        x.due(1, "load", 40);
        x.due(7, "count", 2);
        x.due(3, "listener", 0, 0);
        x.due(12, "gap", 0, 0, 0);
        x.due(345, "gap", 0, 0, 1);
        for (int i = 1; i <= 25; i++) {
            x.due(20 * i, "append", 0, -1, 0, 0, 0);
            x.due(20 * i, "buffered");
        }
        x.due(-1, "append", 0, 0, 0, 0, 0);
        x.due(500, "buffered");
        x.due(Check.ARGUMENT, "load", 500);
        x.due(1, "parseError");
        x.due(0, "errorPosition");
        x.due(0, "buffered");
        x.due(20, "append", 0, 0, 0, 0, 0);
    }

    private static void loading() {
        Check x = new Check("promise 3");
        x.put("radio 0;hears 9;hears 0;hears 1 off 0 0;stop 0 6 0 1");
        x.due(3, "load", 52);
        x.due(0, "buffered");
        x.due(3, "count", 1);
        x.due(1, "count", 0);
        x.due(9, "listener", 0, 0);
        x.due(1, "listener", 2, 1);
        x.due(6, "stop", 2, 0, 1);
        x.due(0, "parseError");
        x.due(-1, "errorPosition");
    }

    private static void boundsOfLoading() {
        Check x = new Check("promise 3: n");
        x.due(Check.INDEX, "load", -1);
        x.due(Check.INDEX, "load", 1);
        x.due(Check.ARGUMENT, "load", 0);
        x.due(1, "parseError");
        x.due(0, "errorPosition");
        x.put("radio 0;hears 9");
        x.due(Check.INDEX, "load", 21);
        x.due(Check.INDEX, "load", Integer.MIN_VALUE);
        x.due(Check.INDEX, "load", Integer.MAX_VALUE);
        x.due(20, "buffered");
        x.due(1, "parseError");
        x.due(0, "errorPosition");
        x.due(1, "load", 20);
        x.due(0, "parseError");
        x.due(-1, "errorPosition");
    }

    /** Bytes behind the first n ones do not belong to the text. */
    private static void partOfTheBuffer() {
        Check x = new Check("promise 3: part of the buffer");
        x.put("radio 1;hears 12");
        x.due(1, "load", 15);
        x.due(1, "listener", 0, 0);
        x.put("radio 15;hears 1");
        x.due(Check.ARGUMENT, "load", 7);
        x.due(7, "errorPosition");
        x.put("radio 1;hears 1");
        x.due(Check.ARGUMENT, "load", 12);
        x.due(8, "errorPosition");
        x.put("radio 1;hears 1 off 3 45");
        x.due(1, "load", 23);
        x.due(4, "gap", 0, 0, 1);
    }

    private static void failedLoadKeepsRadio() {
        Check x = Check.loaded("promise 3: a failed load", "radio 3;hears 1");
        x.due(1, "cancel", 4, 1);
        x.due(1, "tick", 1);
        x.due(1, "save", 1);
        x.put("radio 99;stop 1 1 1 2;hears 5;x");
        x.due(Check.ARGUMENT, "load", 31);
        x.due(0, "buffered");
        x.due(30, "errorPosition");
        x.due(3, "count", 2);
        x.due(1, "count", 3);
        x.due(1, "count", 4);
        x.due(0, "count", 0);
        x.due(1, "listener", 0, 0);
        x.due(2, "undoable");
        x.due(1, "restore", 1);
    }

    private static void loadReplacesAll() {
        Check x = Check.loaded("promise 3: a load behind another", "radio 2;stop 1 1 1 2;hears 1");
        x.due(1, "cancel", 0, 9);
        x.due(1, "whole", 9);
        x.due(0, "tick", 5);
        x.due(2, "correct", 3, 1, 1, 1, 2, 1);
        x.due(0, "tick", 1);
        x.due(1, "addGap", 0, 0, 9);
        // What would be must leave nothing behind for the next text either.
        x.due(6, "sameWith", 0, 2);
        x.due(6, "save", 0);
        x.put("radio 4;hears 8;hears 2");
        x.due(2, "load", 23);
        int[] counts = {0, 2, 4, 0, 0, 0, 0, 0, 0, 2, 0, 0};
        for (int what = 0; what < counts.length; what++) {
            x.due(counts[what], "count", what);
        }
        x.due(0, "undoable");
        x.due(Check.STATE, "undo");
        x.due(Check.STATE, "restore", 0);
        for (int k = 0; k < 12; k++) {
            for (int l = -1; l < 2; l++) {
                x.due(0, "stop", l, k, 4);
                x.due(-1, "stop", l, k, 0);
            }
        }
        for (int what = 1; what < 12; what++) {
            x.due(what == 10 ? 1 : 0, "listener", 0, what);
        }
        x.due(-1, "gap", 0, 0, 0);
        x.due(8, "listener", 0, 0);
        x.due(Check.INDEX, "onAir", 0, 0);
        x.due(1, "cancel", 0, 1);
        x.due(0, "number", 1, 3);
        loadBehindMuch();
    }

    private static void loadBehindMuch() {
        Check x = Check.loaded("promise 3: all begins anew", "radio 1;stop 1 1 1 2;hears 1");
        for (int i = 0; i < 30; i++) {
            x.due(0, "whole", 8);
        }
        x.due(1, "tick", 9);
        x.due(1, "cancel", 0, 1);
        x.due(0, "repeat", 1, 2);
        x.due(1, "tick", 3);
        x.due(1, "count", 10);
        x.due(9, "count", 8);
        x.due(0, "sameIn", 0);
        x.put("radio 1;stop 2 2 2 3;hears 1");
        x.due(1, "load", 28);
        x.due(2, "stop", -1, 0, 0);
        x.due(2, "stop", 0, 0, 0);
        x.due(-1, "stop", 0, 1, 0);
        for (int what = 4; what < 12; what++) {
            x.due(what == 9 ? 1 : 0, "count", what);
        }
    }

    /** The error of a text, on a new object and on one that has a radio. */
    private static void error(int code, int position, String text) {
        Check x = new Check("promises 3 to 5: " + text);
        x.put(text);
        x.due(Check.ARGUMENT, "load", text.length());
        x.due(code, "parseError");
        x.due(position, "errorPosition");
        x.due(0, "buffered");
        x.due(Check.STATE, "count", 0);
    }

    private static void fine(int listeners, String text) {
        Check x = new Check("promises 3 to 5: " + text);
        x.put(text);
        x.due(listeners, "load", text.length());
        x.due(0, "parseError");
        x.due(-1, "errorPosition");
    }

    private static void wordsAndNumbers() {
        fine(1, "  radio10;hears9off0 1");
        fine(1, "radio 0010 ; hears 0009 off 0000 0000 ");
        error(1, 3, "   ");
        error(1, 0, "Radio 1;hears 1");
        error(1, 0, "radiox 1;hears 1");
        error(1, 0, "radi");
        error(1, 0, "badio 1;hears 1");
        error(1, 8, "radio 1;ctop 1 1 1 2;hears 1");
        error(1, 8, "radio 1;tears 1");
        error(1, 8, "radio 1;hearsz 1");
        error(1, 8, "radio 1;ahears 1");
        error(1, 8, "radio 1;`ears 1");
        error(1, 15, "radio 1;hears 1/");
        error(1, 15, "radio 1;hears 1:");
        error(1, 15, "radio 1;hears 1{");
        error(1, 0, "radioxyz 1;hears 1");
        error(1, 6, "radio 00001;hears 1");
        error(1, 6, "radio 99999999999999999999;hears 1");
        error(1, 6, "radio x;hears 1");
        error(1, 8, "radio 1 2;hears 1");
        error(1, 7, "radio 1,hears 1");
        error(1, 7, "radio 1\thears 1");
        error(1, 7, "radio 1" + (char) 200);
        error(1, 8, "radio 1;abcdefg");
        error(1, 8, "radio 1;hear 1");
        error(1, 8, "radio 1;hearsx 1");
        error(1, 5, "radio");
        error(1, 8, "radio   ");
    }

    private static void grammar() {
        error(1, 7, "radio 1");
        error(1, 8, "radio 1;");
        error(1, 8, "radio 1;;hears 1");
        error(1, 20, "radio 1;stop 1 1 1 2");
        error(1, 21, "radio 1;stop 1 1 1 2 off 1 2;hears 1");
        error(1, 16, "radio 1;hears 1;");
        error(1, 16, "radio 1;hears 1 1");
        error(1, 13, "radio 1;hears");
        error(1, 14, "radio 1;hears off 1 2");
        error(1, 22, "radio 1;hears 1 off 1 ;hears 1");
        error(1, 19, "radio 1;hears 1 off");
        error(1, 22, "radio 1;hears 1 off 2 ");
        error(1, 18, "radio 1;stop 1 1 1;hears 1");
        error(1, 13, "radio 1;hears;stop 1 1 1 2");
        error(1, 8, "radio 1;off 1 2");
        error(1, 8, "radio 1;radio 1");
        error(1, 16, "radio 1;hears 1;1");
        fine(1, "radio 1;hears 1;stop 1 1 1 2");
    }

    private static void bounds() {
        fine(1, "radio 99;hears 9 off 9999 9999;stop 29 6 1438 1439;stop 0 0 0 1439");
        error(2, 6, "radio 100;hears 1");
        error(2, 14, "radio 1;hears 10");
        error(2, 22, "radio 1;hears 1 off 9 8");
        error(2, 13, "radio 1;stop 30 1 1 2");
        error(2, 15, "radio 1;stop 1 7 1 2");
        error(2, 17, "radio 1;stop 1 1 1439 1439");
        error(2, 19, "radio 1;stop 1 1 5 5;hears 1");
        error(2, 19, "radio 1;stop 1 1 5 1440");
        error(2, 22, "radio 1;stop 1 1 1438 1438");
        error(1, 20, "radio 1;hears 1 off 10000 1");
        // The error that comes first counts, not the smaller code.
        error(2, 6, "radio 100;;");
    }

    private static void tooMany() {
        String stops = ";stop 1 1 1 2".repeat(12);
        String listeners = ";hears 1".repeat(6);
        fine(1, "radio 1" + stops + ";hears 1");
        error(3, 164, "radio 1" + stops + ";stop");
        error(3, 172, "radio 1" + stops + ";hears 1;stop x");
        error(1, 164, "radio 1" + stops + ";stopp 1 1 1 2");
        fine(6, "radio 1" + listeners);
        fine(6, "radio 1" + listeners + ";stop 1 1 1 2");
        error(3, 56, "radio 1" + listeners + ";hears 1");
        error(1, 56, "radio 1" + listeners + ";off 1 2");
        fine(1, "radio 1;hears 1 off 1 2 off 1 2 off 1 2 off 1 2");
        fine(2, "radio 1;hears 1 off 1 2 off 1 2 off 1 2 off 1 2;hears 1 off 1 2");
        error(3, 48, "radio 1;hears 1 off 1 2 off 1 2 off 1 2 off 1 2 off");
        error(1, 48, "radio 1;hears 1 off 1 2 off 1 2 off 1 2 off 1 2 offf");
    }

    private static void fullText() {
        StringBuilder text = new StringBuilder("radio 1;hears 1");
        while (text.length() < 500) {
            text.append(' ');
        }
        fine(1, text.toString());
        text.setCharAt(499, 'x');
        error(1, 499, text.toString());
    }
}
