import java.lang.reflect.InvocationTargetException;
import java.lang.reflect.Method;
import java.util.Arrays;
import java.util.HashMap;
import java.util.Map;

/** Calls one object by the names of its methods, and tells every answer that is not due. */
final class Check {
    static final String STATE = "IllegalStateException";
    static final String INDEX = "IndexOutOfBoundsException";
    static final String ARGUMENT = "IllegalArgumentException";

    private static int wrong;
    private final String title;
    private final Object object;
    private final Map<String, Method> methods = new HashMap<>();

    Check(String title) {
        this(title, new BookmobileRadio());
    }

    Check(String title, Object object) {
        this.title = title;
        this.object = object;
        for (Method method : object.getClass().getDeclaredMethods()) {
            methods.put(method.getName(), method);
        }
    }

    /** A new object on which a text was loaded. */
    static Check loaded(String title, String text) {
        Check check = new Check(title);
        check.put(text);
        check.answer("load", text.length());
        return check;
    }

    /** Appends a text, with blanks behind it up to a multiple of twenty bytes. */
    void put(String text) {
        for (int at = 0; at < text.length(); at += 20) {
            int[] words = new int[5];
            for (int i = 0; i < 20; i++) {
                int sign = at + i < text.length() ? text.charAt(at + i) : ' ';
                words[i / 4] |= sign << (24 - 8 * (i % 4));
            }
            answer("append", words);
        }
    }

    /** The answer as a text: a boolean as 1 or 0, an exception as its simple name. */
    String answer(String name, int... args) {
        try {
            Object answer = method(name).invoke(object, Arrays.stream(args).boxed().toArray());
            if (answer instanceof Boolean) {
                return (Boolean) answer ? "1" : "0";
            }
            return String.valueOf(answer);
        } catch (InvocationTargetException e) {
            return e.getCause().getClass().getSimpleName();
        } catch (IllegalAccessException e) {
            throw new IllegalStateException(e);
        }
    }

    private Method method(String name) {
        Method method = methods.get(name);
        if (method == null) {
            throw new IllegalStateException("no method " + name);
        }
        return method;
    }

    void due(Object want, String name, int... args) {
        String got = answer(name, args);
        if (!got.equals(String.valueOf(want))) {
            String call = name + Arrays.toString(args);
            tell(title + ": " + call + " answered " + got + ", due is " + want);
        }
    }

    /** The text that was written last is just this one. */
    void dueText(String want) {
        StringBuilder got = new StringBuilder();
        for (int i = 0; i < 1000; i++) {
            String sign = answer("textByte", i);
            if (sign.equals(INDEX)) {
                break;
            }
            got.append((char) Integer.parseInt(sign));
        }
        if (!got.toString().equals(want)) {
            tell(title + ": the text is " + got + ", due is " + want);
        }
        due(INDEX, "textByte", want.length());
        due(INDEX, "textByte", -1);
    }

    /** All that the object tells of its radio, what is on the air and its listeners. */
    String state() {
        StringBuilder all = new StringBuilder();
        for (int what = 0; what < 12; what++) {
            all.append(' ').append(answer("count", what));
        }
        for (int l = -1; l <= size(1); l++) {
            for (int what = 0; what < 12; what++) {
                all.append(' ').append(answer("listener", l, what));
            }
            for (int i = 0; i < 60; i++) {
                all.append(' ').append(answer("stop", l, i / 5, i % 5));
            }
            for (int i = 0; i < 8; i++) {
                all.append(' ').append(answer("gap", l, i / 2, i % 2));
            }
        }
        for (int i = 0; i < 6 * (size(5) + size(6) + 1); i++) {
            all.append(' ').append(answer("onAir", i / 6, i % 6));
        }
        for (int i = 0; i < 5 * (size(4) + 2); i++) {
            all.append(' ').append(answer("number", i / 5, i % 5));
        }
        return all.toString();
    }

    /** A count; 0 if there is no radio. */
    private int size(int what) {
        String count = answer("count", what);
        return count.equals(STATE) ? 0 : Integer.parseInt(count);
    }

    /** All that a call may tell without changing anything. */
    String everything() {
        StringBuilder all = new StringBuilder(state());
        for (String name : new String[] {"parseError", "errorPosition", "buffered", "undoable"}) {
            all.append(' ').append(name).append(' ').append(answer(name));
        }
        String sign = answer("textByte", 0);
        for (int i = 1; i < 1000 && !sign.equals(INDEX); i++) {
            all.append(' ').append(sign);
            sign = answer("textByte", i);
        }
        return all.toString();
    }

    /** What lies behind: the states that undo leads to, and those that are saved. Uses them up. */
    String past() {
        StringBuilder all = new StringBuilder();
        String left = answer("undo");
        while (!left.equals(STATE)) {
            all.append(left).append(state());
            left = answer("undo");
        }
        for (int slot = 0; slot < 2; slot++) {
            all.append(answer("restore", slot)).append(state());
        }
        return all.toString();
    }

    /** A call that is refused, and changes nothing. */
    void refused(String exception, String name, int... args) {
        String before = everything();
        due(exception, name, args);
        if (!before.equals(everything())) {
            tell(title + ": " + name + Arrays.toString(args) + " was refused, but changed something");
        }
    }

    static void tell(String fault) {
        wrong++;
        System.out.println(fault);
    }

    /** Ends a test: with exit code 1 if an answer was wrong. */
    static void end() {
        if (wrong != 0) {
            System.out.println(wrong + " answers are not as due");
            System.exit(1);
        }
    }
}
