/** Promises 38 to 40: the texts that are written. */
public final class TextsTest {
    public static void main(String[] args) {
        days();
        longestDay();
        missing();
        manyMissing();
        textStays();
        Check.end();
    }

    private static void days() {
        Check x = Check.loaded("promise 38", "radio 0;hears 0;stop 4 1 100 200;"
                + "stop 4 1 300 400;stop 4 1 200 300;stop 3 1 100 150;stop 3 1 151 160;"
                + "stop 29 2 1005 1010;stop 9 1 50 60;stop 9 1 55 58;stop 0 3 0 1");
        x.due(Check.INDEX, "textByte", 0);
        x.due("9@50-60 3@100-150 4@100-400 3@151-160".length(), "writeDay", -1, 1);
        x.dueText("9@50-60 3@100-150 4@100-400 3@151-160");
        x.due(1, "writeDay", -1, 0);
        x.dueText("-");
        x.due(12, "writeDay", 0, 2);
        x.dueText("29@1005-1010");
        x.due(5, "writeDay", 0, 3);
        x.dueText("0@0-1");
        x.due(1, "cancel", 5, 1);
        x.due(1, "writeDay", -1, 2);
        x.dueText("-");
        x.due(12, "writeDay", 0, 2);
        x.dueText("29@1005-1010");
        x.due(Check.INDEX, "writeDay", 1, 9);
        x.due(Check.INDEX, "writeDay", -2, 0);
        x.due(Check.ARGUMENT, "writeDay", 0, 7);
        x.due(Check.ARGUMENT, "writeDay", -1, -1);
        x.dueText("29@1005-1010");
        new Check("promise 38: no text").due(Check.STATE, "writeDay", 9, 9);
    }

    private static void longestDay() {
        StringBuilder text = new StringBuilder("radio 0;hears 0");
        StringBuilder want = new StringBuilder();
        for (int i = 10; i < 22; i++) {
            text.append(";stop ").append(i).append(" 6 10").append(i).append(" 1439");
            want.append(i > 10 ? " " : "").append(i).append("@10").append(i).append("-1439");
        }
        Check x = Check.loaded("promise 38: twelve stops", text.toString());
        x.due(want.length(), "writeDay", 0, 6);
        x.dueText(want.toString());
    }

    private static void missing() {
        Check x = Check.loaded("promise 39", "radio 0;hears 0;hears 9");
        x.due(1, "writeMissing", 0);
        x.dueText("*");
        for (int n = 1; n <= 11; n++) {
            x.due(n, "cancel", 0, n == 3 || n == 5 || n == 11 ? 1 : 20);
        }
        x.due(1, "writeMissing", 0);
        x.due(2, "tick", 1);
        x.due(10, "writeMissing", 0);
        x.dueText("1-2,4,6-10");
        x.due(1, "writeMissing", 1);
        x.dueText("*");
        x.due(Check.INDEX, "writeMissing", 2);
        x.due(Check.INDEX, "writeMissing", -1);
        x.dueText("*");
        x.due(10, "writeMissing", 0);
        new Check("promise 39: no text").due(Check.STATE, "writeMissing", 9);
    }

    private static void manyMissing() {
        Check x = Check.loaded("promise 39: to 99", "radio 0;hears 0 off 1 1");
        StringBuilder want = new StringBuilder();
        for (int n = 1; n <= 99; n++) {
            // Every third number is heard, the two between are told while the listener is deaf.
            if (n % 3 == 0) {
                x.due(n, "cancel", 0, 2);
                x.answer("tick", 2);
                x.answer("dropGap", 0, 0);
                x.answer("addGap", 0, time(x) + 1, time(x) + 1);
                want.append(n > 3 ? "," : "").append(n - 2).append('-').append(n - 1);
            } else {
                x.due(n, "cancel", 0, 1);
            }
        }
        x.due(want.length(), "writeMissing", 0);
        x.dueText(want.toString());
    }

    private static int time(Check x) {
        return Integer.parseInt(x.answer("count", 3));
    }

    private static void textStays() {
        Check x = Check.loaded("promise 40", "radio 0;hears 0;stop 1 0 2 3");
        x.due(0, "save", 0);
        x.due(5, "writeDay", 0, 0);
        x.due(1, "cancel", 0, 1);
        x.due(0, "undo");
        x.due(0, "restore", 0);
        x.put("radio 0;hears 0");
        x.due(1, "load", 15);
        x.put("x");
        x.due(Check.ARGUMENT, "load", 1);
        x.due(49, "textByte", 0);
        x.due(64, "textByte", 1);
        x.due(45, "textByte", 3);
        x.dueText("1@2-3");
        x.due(Check.INDEX, "textByte", Integer.MIN_VALUE);
        x.due(Check.INDEX, "textByte", Integer.MAX_VALUE);
        // A shorter text leaves nothing of the longer one.
        x.due(1, "writeMissing", 0);
        x.dueText("*");
        new Check("promise 40: no text").due(Check.INDEX, "textByte", 0);
    }
}
