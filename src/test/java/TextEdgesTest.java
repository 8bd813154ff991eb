/** Section 6: each bound of the text format, on both sides, and the edges of the input buffer. */
public final class TextEdgesTest {
    private static final String STOP = ";stop 1 1 1 2";
    private static final String HEARS = ";hears 1";
    private static final String OFF = " off 1 2";
    private static final String WHOLE = "radio 12;stop 3 4 56 789;hears 5 off 67 890 off 1 1;hears 6";

    public static void main(String[] args) {
        numbers();
        bytesBehindAll();
        bytesBehindAWord();
        bytesBehindANumber();
        lettersOfAWord();
        stops();
        listeners();
        gaps();
        smallestCode();
        firstErrorCounts();
        endOfTheText();
        eachCut();
        eachOtherToken();
        bufferIsFull();
        bytesToParse();
        refusedLoads();
        Check.end();
    }

    private static Check load(Object want, String text, int code, int position) {
        Check x = new Check("section 6: " + text);
        x.put(text);
        x.due(want, "load", text.length());
        x.due(code, "parseError");
        x.due(position, "errorPosition");
        x.due(0, "buffered");
        return x;
    }

    private static Check fine(int listeners, String text) {
        return load(listeners, text, 0, -1);
    }

    private static void error(int code, int position, String text) {
        load(Check.ARGUMENT, text, code, position);
    }

    /** Each number of the grammar: # is its place, and a call tells what was read there. */
    private static void numbers() {
        number("radio #;hears 1", 0, 99, "count", 2);
        number("radio 1;stop # 1 1 2;hears 1", 0, 29, "stop", -1, 0, 0);
        number("radio 1;stop 1 # 1 2;hears 1", 0, 6, "stop", -1, 0, 1);
        number("radio 1;stop 1 1 # 1439;hears 1", 0, 1438, "stop", -1, 0, 2);
        number("radio 1;stop 1 1 0 #;hears 1", 1, 1439, "stop", -1, 0, 3);
        number("radio 1;stop 1 1 700 #;hears 1", 701, 1439, "stop", -1, 0, 3);
        number("radio 1;stop 1 1 1438 #;hears 1", 1439, 1439, "stop", -1, 0, 3);
        number("radio 1;hears #", 0, 9, "listener", 0, 0);
        number("radio 1;hears # off 1 2", 0, 9, "listener", 0, 0);
        number("radio 1;hears 1 off # 9999", 0, 9999, "gap", 0, 0, 0);
        number("radio 1;hears 1 off 0 #", 0, 9999, "gap", 0, 0, 1);
        number("radio 1;hears 1 off 40 #", 40, 9999, "gap", 0, 0, 1);
        number("radio 1;hears 1 off 9999 #", 9999, 9999, "gap", 0, 0, 1);
    }

    private static void number(String text, int least, int most, String call, int... args) {
        int position = text.indexOf('#');
        for (int value : new int[] {least, most}) {
            fine(1, text.replace("#", "" + value)).due(value, call, args);
            fine(1, text.replace("#", String.format("%04d", value))).due(value, call, args);
            error(1, position, text.replace("#", String.format("%05d", value)));
        }
        for (int value : new int[] {least - 1, most + 1, 9999}) {
            if (value >= 0 && value <= 9999 && (value < least || value > most)) {
                error(2, position, text.replace("#", "" + value));
            }
        }
        for (String wrong : new String[] {"10000", "99999", "4294967297", "-1", "x", "off", ";", "+1",
            ".5"}) {
            error(1, position, text.replace("#", wrong));
        }
        error(1, position, text.substring(0, position));
        error(1, position + 3, text.substring(0, position) + "   ");
    }

    /** Behind the whole text only blanks are fine; a semicolon begins a line that is missing. */
    private static void bytesBehindAll() {
        for (int sign = 0; sign < 256; sign++) {
            String text = "radio 1;hears 1 " + (char) sign;
            if (sign == ' ') {
                fine(1, text);
            } else {
                error(1, sign == ';' ? 17 : 16, text);
            }
        }
    }

    private static void bytesBehindAWord() {
        for (int sign = 0; sign < 256; sign++) {
            String text = "radio" + (char) sign + "1;hears 1";
            if (sign >= '0' && sign <= '9') {
                fine(1, text).due(10 * (sign - '0') + 1, "count", 2);
            } else if (sign == ' ') {
                fine(1, text).due(1, "count", 2);
            } else {
                error(1, sign >= 'a' && sign <= 'z' ? 0 : 5, text);
            }
        }
    }

    private static void bytesBehindANumber() {
        for (int sign = 0; sign < 256; sign++) {
            String text = "radio 1" + (char) sign + ";hears 1";
            if (sign >= '0' && sign <= '9') {
                fine(1, text).due(10 + sign - '0', "count", 2);
            } else if (sign == ' ') {
                fine(1, text).due(1, "count", 2);
            } else {
                error(1, sign == ';' ? 8 : 7, text);
            }
        }
    }

    private static void lettersOfAWord() {
        for (String word : new String[] {"r", "radi", "adio", "sadio", "radix", "radios", "zradio", "radioxx",
            "a", "zzzzzz", "zzzzzzz", "radioradio", "stop", "hears", "off"}) {
            error(1, 2, "  " + word + " 1;hears 1");
        }
        for (String word : new String[] {"s", "sto", "ttop", "iears", "stopp", "stoq", "stoppp", "stopppp", "hear",
            "hearss", "hearsss", "heart", "off", "radio", "o"}) {
            error(1, 9, "radio 1; " + word + " 1 1 1 2");
        }
        for (String word : new String[] {"o", "of", "pff", "offf", "ofg", "offfffff", "hears", "stop"}) {
            error(1, 15, "radio 1;hears 1" + word + " 1 2");
        }
    }

    private static void stops() {
        fine(1, "radio 1" + HEARS).due(0, "count", 0);
        Check x = fine(1, "radio 1" + STOP.repeat(11) + ";stop 2 2 2 3" + HEARS);
        x.due(12, "count", 0);
        x.due(1, "stop", 0, 10, 0);
        x.due(2, "stop", 0, 11, 0);
        error(3, 164, "radio 1" + STOP.repeat(12) + STOP + HEARS);
        error(3, 164, "radio 1" + STOP.repeat(12) + ";stop");
        error(3, 166, "radio 1" + STOP.repeat(12) + ";  stop 99");
        error(3, 172, "radio 1" + HEARS + STOP.repeat(12) + STOP);
        error(3, 172, "radio 1" + STOP.repeat(12) + HEARS + STOP);
        error(1, 163, "radio 1" + STOP.repeat(12));
    }

    private static void listeners() {
        error(1, 7, "radio 1");
        error(1, 20, "radio 1" + STOP);
        fine(1, "radio 1" + HEARS).due(Check.INDEX, "listener", 1, 0);
        Check x = fine(6, "radio 1" + HEARS.repeat(5) + ";hears 6");
        x.due(6, "count", 1);
        x.due(6, "listener", 5, 0);
        x.due(Check.INDEX, "listener", 6, 0);
        error(3, 56, "radio 1" + HEARS.repeat(6) + HEARS);
        error(3, 56, "radio 1" + HEARS.repeat(6) + ";hears");
        error(3, 58, "radio 1" + HEARS.repeat(6) + ";  hears 99");
        error(3, 69, "radio 1" + HEARS.repeat(6) + STOP + HEARS);
        error(1, 56, "radio 1" + HEARS.repeat(6) + ";");
    }

    private static void gaps() {
        fine(1, "radio 1" + HEARS).due(0, "listener", 0, 1);
        Check x = fine(2, "radio 1" + HEARS + OFF.repeat(3) + " off 3 4" + HEARS + OFF.repeat(4));
        for (int l = 0; l < 2; l++) {
            x.due(4, "listener", l, 1);
            x.due(l == 0 ? 3 : 1, "gap", l, 3, 0);
            x.due(l == 0 ? 4 : 2, "gap", l, 3, 1);
            x.due(-1, "gap", l, 4, 0);
        }
        error(3, 48, "radio 1" + HEARS + OFF.repeat(5));
        error(3, 50, "radio 1" + HEARS + OFF.repeat(4) + "   off 9 8");
        error(3, 88, "radio 1" + HEARS + OFF.repeat(4) + HEARS + OFF.repeat(4) + OFF + HEARS);
        fine(6, "radio 1" + (HEARS + OFF.repeat(4)).repeat(6)).due(4, "listener", 5, 1);
    }

    /** Of a word that is one too many, and not allowed there either, code 1 is told. */
    private static void smallestCode() {
        error(1, 164, "radio 1" + STOP.repeat(12) + " stop 1 1 1 2");
        error(1, 56, "radio 1" + HEARS.repeat(6) + " hears 1");
        error(1, 48, "radio 1" + HEARS + OFF.repeat(4) + ";off 1 2");
        error(1, 44, "radio 1" + HEARS + OFF.repeat(3) + " off off 1 2");
        // A number that is not allowed and out of all bounds; one of five digits likewise.
        error(1, 8, "radio 1 9999;hears 1");
        error(1, 6, "radio 99999;hears 1");
        error(1, 14, "radio 1;hears 10000");
    }

    private static void firstErrorCounts() {
        error(2, 6, "radio 100" + STOP.repeat(13));
        error(2, 22, "radio 1" + HEARS + ";hears 10?");
        error(3, 164, "radio 1" + STOP.repeat(13) + "?");
        error(1, 8, "radio 1;?;stop 99" + HEARS.repeat(7));
        error(2, 13, "radio 1;stop 30 7 1439 1440 x");
        error(2, 15, "radio 1;stop 9 7 1439 1440 x");
        error(2, 22, "radio 1;hears 1 off 7 6 off 5 4");
    }

    private static void endOfTheText() {
        error(1, 0, "");
        error(1, 1, " ");
        error(1, 5, "radio");
        error(1, 9, "radio 1; ");
        error(1, 17, "radio 1;hears 1; ");
        error(1, 16, "radio 1;hears   ");
        fine(1, "radio 1;hears 1   ");
        error(2, 13, "radio 1;stop 30");
        error(1, 15, "radio 1;stop 29");
    }

    /** The text that is cut behind each of its bytes, against the plain model. */
    private static void eachCut() {
        for (int n = 0; n <= WHOLE.length(); n++) {
            asModel(WHOLE, n);
            asModel(WHOLE.substring(0, n) + "  ", n + 2);
        }
    }

    /** Each token of the text in turn is another one, or is told twice, or is left out. */
    private static void eachOtherToken() {
        String[] tokens = WHOLE.replace(";", " ; ").split(" +");
        String[] others = {"radio", "stop", "hears", "off", ";", "0", "7", "1439", "9999", "10000",
            "word", "toolong", "?", "", "; stop 1 1 1 2 ;", "; hears 1 ;", "off 1 2"};
        for (int i = 0; i < tokens.length; i++) {
            for (String other : others) {
                String[] changed = tokens.clone();
                changed[i] = other;
                asModel(String.join(" ", changed));
                changed[i] = tokens[i] + " " + other;
                asModel(String.join(" ", changed));
            }
        }
    }

    private static void asModel(String text) {
        asModel(text, text.length());
    }

    private static void asModel(String text, int n) {
        Check x = new Check("section 6: " + text);
        Check model = new Check("model", new Model());
        x.put(text);
        model.put(text);
        x.due(model.answer("load", n), "load", n);
        x.due(model.answer("parseError"), "parseError");
        x.due(model.answer("errorPosition"), "errorPosition");
        if (!x.state().equals(model.state())) {
            Check.tell("section 6: " + text + " gives another radio than in the model");
        }
    }

    /** 500 bytes are the most: the last one is read, and a text may be as long. */
    private static void bufferIsFull() {
        Check x = new Check("section 6: 500 bytes");
        for (int i = 1; i <= 25; i++) {
            x.due(20 * i, "append", 0x20202020, 0x20202020, 0x20202020, 0x20202020, 0x20202020);
        }
        x.refused("-1", "append", 0, 0, 0, 0, 0);
        x.due(500, "buffered");
        x.due(Check.INDEX, "load", 501);
        x.due(500, "buffered");
        x.due(Check.ARGUMENT, "load", 500);
        x.due(500, "errorPosition");
        x.due(20, "append", 0, 0, 0, 0, 0);
        String blanks = " ".repeat(500);
        fine(1, ("radio 1;hears 1" + blanks).substring(0, 500));
        fine(1, (blanks + "radio 1;hears 1").substring(15)).due(1, "listener", 0, 0);
        error(1, 500, ("radio 1;hears 1;" + blanks).substring(0, 500));
        error(1, 499, ("radio 1;hears 1" + blanks).substring(0, 499) + "x");
    }

    private static void bytesToParse() {
        Check x = new Check("promise 3: n");
        x.due(Check.INDEX, "load", 1);
        x.due(0, "parseError");
        x.due(Check.ARGUMENT, "load", 0);
        x.due(1, "parseError");
        x.due(0, "errorPosition");
        x.put("radio 1;hears 1");
        x.due(Check.INDEX, "load", 21);
        x.due(Check.INDEX, "load", -1);
        x.due(20, "buffered");
        x.due(Check.ARGUMENT, "load", 0);
        x.due(0, "errorPosition");
        x.due(0, "buffered");
        x.put("radio 1;hears 12");
        x.due(Check.ARGUMENT, "load", 20);
        x.due(2, "parseError");
        x.put("radio 1;hears 12");
        x.due(1, "load", 15);
        x.due(0, "buffered");
        x.due(0, "parseError");
        x.due(-1, "errorPosition");
    }

    /** What a refused load leaves: by IndexOutOfBounds all, by IllegalArgument all but the error. */
    private static void refusedLoads() {
        Check x = history();
        Check untouched = history();
        x.refused(Check.INDEX, "load", 41);
        x.refused(Check.INDEX, "load", -1);
        x.refused(Check.INDEX, "load", Integer.MIN_VALUE);
        x.refused(Check.INDEX, "load", Integer.MAX_VALUE);
        x.due(40, "buffered");
        x.due(2, "parseError");
        x.due(14, "errorPosition");
        String before = x.state();
        x.due(Check.ARGUMENT, "load", 31);
        x.due(1, "parseError");
        x.due(30, "errorPosition");
        x.due(0, "buffered");
        if (!before.equals(x.state()) || !x.past().equals(untouched.past())) {
            Check.tell("promise 3: a load that failed changed the radio, or what is behind it");
        }
    }

    private static Check history() {
        Check x = Check.loaded("promise 3: refused", "radio 3;stop 4 4 4 5;hears 1;hears 0 off 2 3");
        x.due(1, "cancel", 0, 2);
        x.due(0, "save", 1);
        x.due(0, "tick", 2);
        x.due(2, "correct", 5, 6, 6, 6, 7, 9);
        x.put("radio 1;hears 10");
        x.due(Check.ARGUMENT, "load", 16);
        x.put("radio 99;stop 1 1 1 2;hears 5;x");
        return x;
    }
}
