import java.lang.reflect.Method;
import java.util.ArrayList;
import java.util.Arrays;
import java.util.List;
import java.util.Set;
import java.util.TreeSet;

/**
 * The bounds of each argument of each method: the least and the greatest value are accepted, those
 * beside them are refused; of several exceptions the one that is listed first is thrown; a call
 * that is refused changes nothing, not even what undo and restore lead to.
 */
public final class RefusalsTest {
    private static final int LEAST = Integer.MIN_VALUE;
    private static final int MOST = Integer.MAX_VALUE;
    private static final Set<String> CHANGES = Set.of("correct", "cancel", "repeat", "whole", "tick",
            "addGap", "dropGap", "setDelay", "setPeriod", "fetch");
    private static final Set<String> WRITERS = Set.of("writeDay", "writeMissing");
    private static final Set<String> OTHERS = Set.of("append", "load", "parseError",
            "errorPosition", "buffered", "worst", "allSameIn", "quietIn", "wholeIn", "sameShare",
            "meanBehind", "undo", "undoable");

    /** An argument: a value that is fine, its bounds, and what is thrown beyond them. */
    private record Arg(int fine, int least, int most, String exception) {
        boolean isBounded() {
            return exception != null;
        }

        /** One value beyond the bounds; each of the two in turn. */
        int wrong(int turn) {
            return turn % 2 == 0 ? least - 1 : most + 1;
        }
    }

    private static final Arg LISTENER = index(0, 2);
    private static final Arg LIST = index(-1, 2);
    private static final Arg SLOT = index(0, 11);
    private static final Arg LENGTH = number(1, 20);
    private static final Arg DAY = number(0, 6);
    private static final Arg PLACE = number(0, 29);
    private static final Arg MINUTE = number(0, 1439);
    private static final Arg TICKS = number(0, 200);
    private static final Arg ANY = new Arg(1, LEAST, MOST, null);

    private record Row(String name, Arg... args) {
        int[] fine() {
            return Arrays.stream(args).mapToInt(Arg::fine).toArray();
        }

        int[] with(int i, int value) {
            int[] values = fine();
            values[i] = value;
            return values;
        }
    }

    private static final Row[] ROWS = {
        new Row("count", number(0, 11)), new Row("stop", LIST, SLOT, number(0, 4)),
        new Row("onAir", index(0, 2), number(0, 5)), new Row("number", number(1, 2), number(0, 4)),
        new Row("minutes", LIST, PLACE), new Row("stands", LIST, DAY, MINUTE),
        new Row("nextAt", LIST, DAY, MINUTE), new Row("clashes", LIST), new Row("merged", LIST, DAY),
        new Row("mergedStop", LIST, DAY, ANY, number(0, 3)),
        new Row("listener", LISTENER, number(0, 11)), new Row("gap", LISTENER, ANY, number(0, 1)),
        new Row("hasHeard", LISTENER, ANY), new Row("missing", LISTENER, ANY),
        new Row("isSame", LIST, LIST), new Row("wrongMinutes", LISTENER),
        new Row("behind", LISTENER), new Row("overtakes", LISTENER), new Row("sameIn", LISTENER),
        new Row("heardIn", LISTENER, ANY), new Row("missingIn", LISTENER, TICKS),
        new Row("wrongIn", LISTENER, TICKS), new Row("sameWithout", LISTENER),
        new Row("sameWith", LISTENER, number(0, 99)), new Row("bestPeriod", LISTENER),
        new Row("writeDay", LIST, DAY), new Row("writeMissing", LISTENER),
        new Row("textByte", index(0, 0)),
        new Row("correct", SLOT, PLACE, DAY, number(0, 1438), fixed(1439), LENGTH),
        new Row("correct", SLOT, PLACE, DAY, fixed(0), number(1, 1439), LENGTH),
        new Row("correct", SLOT, PLACE, DAY, fixed(700), number(701, 1439), LENGTH),
        new Row("correct", SLOT, PLACE, DAY, fixed(1438), number(1439, 1439), LENGTH),
        new Row("cancel", SLOT, LENGTH), new Row("repeat", number(1, 2), LENGTH),
        new Row("whole", LENGTH), new Row("tick", number(1, 60)),
        new Row("addGap", LISTENER, number(0, 9999), fixed(9999)),
        new Row("addGap", LISTENER, fixed(0), number(0, 9999)),
        new Row("addGap", LISTENER, fixed(500), number(500, 9999)),
        new Row("addGap", LISTENER, fixed(9999), number(9999, 9999)),
        new Row("dropGap", LISTENER, index(0, 1)), new Row("setDelay", LISTENER, number(0, 9)),
        new Row("setPeriod", number(0, 99)), new Row("fetch", LISTENER),
        new Row("save", index(0, 1)), new Row("restore", index(0, 1)),
    };

    public static void main(String[] args) {
        wholeFaceIsBounded();
        for (Row row : ROWS) {
            boundsAreAccepted(row);
            beyondIsRefused(row);
            severalAreWrong(row);
            withoutText(row);
        }
        withoutTextNoArguments();
        fullAir();
        lastCorrection();
        fourGaps();
        lastTime();
        nothingToUndo();
        nothingSaved();
        Check.end();
    }

    private static Arg index(int least, int most) {
        return new Arg(0, least, most, Check.INDEX);
    }

    private static Arg number(int least, int most) {
        return new Arg(least, least, most, Check.ARGUMENT);
    }

    private static Arg fixed(int value) {
        return new Arg(value, value, value, null);
    }

    /** A radio of which all is other than at first: listeners, gaps, air, text, buffer, saves. */
    private static Check busy(String title) {
        Check x = Check.loaded(title, "radio 9;stop 3 2 100 200;stop 4 2 150 250;"
                + "hears 2 off 3 4 off 7 7;hears 0 off 2 2;hears 9 off 60 70");
        x.due(1, "correct", 0, 9, 1, 300, 400, 6);
        x.due(0, "save", 1);
        x.due(2, "cancel", 3, 1);
        x.due(2, "whole", 4);
        x.due(0, "tick", 3);
        x.due(3, "save", 0);
        x.due(9, "setPeriod", 8);
        x.due(1, "writeMissing", 0);
        x.put("radio 1;hears 10");
        x.due(Check.ARGUMENT, "load", 16);
        x.put("radio 5;hears 5");
        return x;
    }

    private static boolean isException(String answer) {
        return answer.endsWith("Exception");
    }

    /** No method is forgotten here: what has no row has no argument that can be refused. */
    private static void wholeFaceIsBounded() {
        Set<String> told = new TreeSet<>(OTHERS);
        for (Row row : ROWS) {
            told.add(row.name);
        }
        Set<String> face = new TreeSet<>();
        for (Method method : BookmobileRadio.class.getMethods()) {
            if (method.getDeclaringClass() == BookmobileRadio.class) {
                face.add(method.getName());
            }
        }
        if (!told.equals(face)) {
            Check.tell("the rows are for " + told + ", the face is " + face);
        }
    }

    private static void boundsAreAccepted(Row row) {
        for (int i = 0; i < row.args.length; i++) {
            Arg arg = row.args[i];
            accepted(row.name, row.with(i, arg.least));
            accepted(row.name, row.with(i, arg.most));
            if (!arg.isBounded() && arg.least < arg.most) {
                accepted(row.name, row.with(i, -1));
                accepted(row.name, row.with(i, 0));
            }
        }
    }

    /** Only changes can be undone, and only they, save, restore and texts leave a difference. */
    private static void accepted(String name, int... args) {
        Check x = busy("accepted");
        String before = x.everything();
        int undoable = Integer.parseInt(x.answer("undoable"));
        String call = name + Arrays.toString(args);
        String answer = x.answer(name, args);
        if (isException(answer)) {
            Check.tell(call + " is within the bounds, but answered " + answer);
        }
        if (name.equals("restore")) {
            x.due(0, "undoable");
        } else if (CHANGES.contains(name)) {
            x.due(undoable + 1, "undoable");
            x.due(undoable, "undo");
        }
        if (!name.equals("restore") && !WRITERS.contains(name) && !before.equals(x.everything())) {
            Check.tell(call + " changed something, or can't be undone");
        }
    }

    private static void beyondIsRefused(Row row) {
        Check x = busy("beyond the bounds");
        for (int i = 0; i < row.args.length; i++) {
            Arg arg = row.args[i];
            if (arg.isBounded()) {
                x.refused(arg.exception, row.name, row.with(i, arg.least - 1));
                x.refused(arg.exception, row.name, row.with(i, arg.most + 1));
                x.refused(arg.exception, row.name, row.with(i, LEAST));
                x.refused(arg.exception, row.name, row.with(i, MOST));
            }
        }
        duePast(x, busy("none refused"), row.name);
    }

    private static void duePast(Check x, Check untouched, String name) {
        if (!x.past().equals(untouched.past())) {
            Check.tell(name + " was refused, but changed what undo or restore lead to");
        }
    }

    /** All sets of arguments that are wrong at once. */
    private static void severalAreWrong(Row row) {
        Check x = busy("several exceptions");
        for (int set = 1; set < 1 << row.args.length; set++) {
            int[] values = row.fine();
            String due = null;
            for (int i = 0; i < values.length; i++) {
                Arg arg = row.args[i];
                if ((set >> i & 1) == 1 && arg.isBounded()) {
                    values[i] = arg.wrong(set + i);
                    due = Check.INDEX.equals(due) ? due : arg.exception;
                }
            }
            if (due != null) {
                x.due(due, row.name, values);
            }
        }
        duePast(x, busy("none refused"), row.name);
    }

    private static void withoutText(Row row) {
        Check x = new Check("no text was loaded");
        int[] wrong = row.fine();
        for (int i = 0; i < wrong.length; i++) {
            wrong[i] = row.args[i].isBounded() ? row.args[i].wrong(i) : wrong[i];
        }
        boolean indexFirst = row.name.equals("textByte") || row.name.equals("restore");
        x.refused(indexFirst ? Check.INDEX : Check.STATE, row.name, wrong);
        x.refused(row.name.equals("textByte") ? Check.INDEX : Check.STATE, row.name, row.fine());
        x.put("radio");
        x.due(Check.ARGUMENT, "load", 5);
        x.refused(indexFirst ? Check.INDEX : Check.STATE, row.name, wrong);
        x.refused(row.name.equals("textByte") ? Check.INDEX : Check.STATE, row.name, row.fine());
    }

    private static void withoutTextNoArguments() {
        Check x = new Check("no text was loaded");
        for (String name : new String[] {"worst", "allSameIn", "quietIn", "wholeIn", "sameShare",
            "meanBehind", "undo"}) {
            x.refused(Check.STATE, name);
        }
        x.due(0, "parseError");
        x.due(-1, "errorPosition");
        x.due(0, "buffered");
        x.due(0, "undoable");
    }

    /** Corrections and whole lists together are 30 on the air; there is room as soon as one ends. */
    private static void fullAir() {
        List<Check> twins = new ArrayList<>();
        for (int twin = 0; twin < 2; twin++) {
            Check x = Check.loaded("full air", "radio 0;hears 0;hears 2");
            x.due(1, "cancel", 7, 1);
            x.due(7, "repeat", 1, 3);
            for (int i = 2; i < 28; i++) {
                x.due(1, "whole", 20);
            }
            x.due(2, "correct", 0, 0, 0, 0, 1, 20);
            x.due(3, "cancel", 0, 20);
            x.due(4, "count", 5);
            x.due(26, "count", 6);
            twins.add(x);
        }
        Check x = twins.get(0);
        x.refused(Check.ARGUMENT, "correct", 0, 0, 0, 0, 1, 1);
        x.refused(Check.INDEX, "correct", 12, 0, 0, 0, 1, 1);
        x.refused(Check.ARGUMENT, "cancel", 0, 1);
        x.refused(Check.INDEX, "cancel", -1, 1);
        x.refused(Check.ARGUMENT, "repeat", 1, 1);
        x.refused(Check.ARGUMENT, "whole", 1);
        duePast(x, twins.get(1), "a call without room on the air");
        Check y = Check.loaded("room again", "radio 0;hears 0;hears 2");
        y.due(1, "cancel", 7, 1);
        for (int i = 1; i < 30; i++) {
            y.due(1, "whole", 20);
        }
        y.due(2, "tick", 2);
        y.refused(Check.ARGUMENT, "whole", 1);
        y.due(2, "tick", 1);
        y.due(1, "whole", 1);
        y.refused(Check.ARGUMENT, "whole", 1);
        y.due(7, "undo");
    }

    private static void lastCorrection() {
        List<Check> twins = new ArrayList<>();
        for (int twin = 0; twin < 2; twin++) {
            Check x = Check.loaded("99 corrections", "radio 0;hears 0");
            for (int n = 1; n <= 99; n++) {
                x.due(n, "cancel", n % 12, 1);
                x.due(1, "tick", 1);
            }
            twins.add(x);
        }
        Check x = twins.get(0);
        x.refused(Check.ARGUMENT, "correct", 0, 0, 0, 0, 1, 1);
        x.refused(Check.INDEX, "correct", -1, 0, 0, 0, 1, 1);
        x.refused(Check.ARGUMENT, "cancel", 0, 1);
        x.refused(Check.INDEX, "cancel", 12, 1);
        x.refused(Check.ARGUMENT, "repeat", 100, 1);
        duePast(x, twins.get(1), "a 100th correction");
        Check y = Check.loaded("the 99th correction again", "radio 0;hears 0");
        for (int n = 1; n <= 98; n++) {
            y.due(n, "cancel", 0, 1);
            y.due(1, "tick", 1);
        }
        y.due(99, "correct", 11, 29, 6, 1438, 1439, 20);
        y.due(7, "undo");
        y.due(98, "count", 4);
        y.due(99, "cancel", 11, 20);
        y.refused(Check.ARGUMENT, "cancel", 11, 20);
        y.due(11, "repeat", 99, 20);
        y.due(99, "whole", 20);
    }

    private static void fourGaps() {
        Check x = busy("four gaps");
        Check untouched = busy("four gaps");
        for (Check one : new Check[] {x, untouched}) {
            one.due(3, "addGap", 0, 5, 5);
            one.due(4, "addGap", 0, 5, 5);
        }
        x.refused(Check.ARGUMENT, "addGap", 0, 5, 5);
        x.refused(Check.INDEX, "addGap", 3, 5, 5);
        x.refused(Check.INDEX, "dropGap", 0, 4);
        duePast(x, untouched, "a fifth gap");
        Check y = busy("a fourth gap again");
        y.due(3, "addGap", 0, 5, 5);
        y.due(4, "addGap", 0, 6, 6);
        y.due(3, "dropGap", 0, 0);
        y.due(4, "addGap", 0, 8, 8);
        y.refused(Check.ARGUMENT, "addGap", 0, 5, 5);
        y.due(2, "addGap", 1, 5, 5);
        for (int gaps = 4; gaps > 0; gaps--) {
            y.due(gaps - 1, "dropGap", 0, gaps - 1);
        }
        y.refused(Check.INDEX, "dropGap", 0, 0);
    }

    private static void lastTime() {
        Check x = Check.loaded("the time 9999", "radio 0;hears 0");
        for (int i = 0; i < 166; i++) {
            x.due(1, "tick", 60);
        }
        x.due(9960, "count", 3);
        x.refused(Check.ARGUMENT, "tick", 60);
        x.refused(Check.ARGUMENT, "tick", 40);
        x.due(1, "tick", 39);
        x.due(9999, "count", 3);
        x.refused(Check.ARGUMENT, "tick", 1);
        x.refused(Check.ARGUMENT, "tick", 0);
        x.due(7, "undo");
        x.due(1, "tick", 38);
        x.due(1, "tick", 1);
        x.refused(Check.ARGUMENT, "tick", 1);
    }

    private static void nothingToUndo() {
        Check x = Check.loaded("nothing to undo", "radio 0;hears 0");
        x.refused(Check.STATE, "undo");
        x.due(0, "whole", 1);
        x.due(0, "undo");
        x.refused(Check.STATE, "undo");
        x.due(0, "save", 0);
        x.due(0, "whole", 1);
        x.due(0, "restore", 0);
        x.refused(Check.STATE, "undo");
        x.due(0, "whole", 1);
        x.put("radio 0;hears 0");
        x.due(1, "load", 15);
        x.refused(Check.STATE, "undo");
    }

    private static void nothingSaved() {
        Check x = Check.loaded("nothing is saved", "radio 0;hears 0");
        x.due(0, "whole", 1);
        x.refused(Check.STATE, "restore", 0);
        x.refused(Check.STATE, "restore", 1);
        x.refused(Check.INDEX, "restore", -1);
        x.refused(Check.INDEX, "restore", 2);
        x.due(0, "save", 1);
        x.refused(Check.STATE, "restore", 0);
        x.due(1, "undoable");
        x.due(0, "restore", 1);
        x.due(0, "undoable");
    }
}
