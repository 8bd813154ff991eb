import java.lang.reflect.Method;
import java.util.ArrayList;
import java.util.Arrays;
import java.util.List;
import java.util.Random;

/** All promises together: random runs, in which each answer must be that of the plain Model. */
public final class RandomRunsTest {
    private static final int RUNS = Integer.getInteger("runs", 400);
    private static final int CALLS = 512;
    private static final String[] CHANGES = {"correct", "cancel", "repeat", "whole", "tick", "tick",
        "addGap", "dropGap", "setDelay", "setPeriod", "fetch", "undo", "save", "restore"};
    private static final int[] EDGES = {Integer.MIN_VALUE, Integer.MAX_VALUE, -2, -1, 3, 4, 5, 6, 7,
        8, 9, 10, 11, 12, 20, 21, 29, 30, 60, 61, 99, 100, 200, 201, 1438, 1439, 1440, 9999, 10000};
    private static final List<Method> FACE = face();

    private final Random random;
    private final int[] air;
    private final Check real;
    private final Check model;
    private final List<String> calls = new ArrayList<>();

    private RandomRunsTest(int seed) {
        random = new Random(seed);
        real = new Check("real");
        model = new Check("model", new Model());
        air = new int[] {random.nextInt(4), random.nextInt(3)};
    }

    public static void main(String[] args) {
        for (int seed = 1; seed <= RUNS; seed++) {
            if (!new RandomRunsTest(seed).isRight()) {
                Check.tell("run " + seed + " is wrong");
                break;
            }
        }
        Check.end();
    }

    private static List<Method> face() {
        List<Method> face = new ArrayList<>();
        for (Method method : Model.class.getDeclaredMethods()) {
            if (java.lang.reflect.Modifier.isPublic(method.getModifiers())) {
                face.add(method);
            }
        }
        face.sort(java.util.Comparator.comparing(Method::getName));
        return face;
    }

    private boolean isRight() {
        if (random.nextInt(10) > 0 && !put(text())) {
            return false;
        }
        while (calls.size() < CALLS) {
            boolean fine;
            if (random.nextInt(150) == 0) {
                fine = put(random.nextBoolean() ? text() : broken(text()));
            } else if (random.nextInt(2) == 0) {
                fine = call(CHANGES[random.nextInt(CHANGES.length)]);
            } else {
                fine = call(FACE.get(random.nextInt(FACE.size())).getName());
            }
            if (!fine || !isPublishedIfNoneMissed()) {
                return false;
            }
        }
        return true;
    }

    /** Section 3: who misses none and has heard of the latest correction has the published list. */
    private boolean isPublishedIfNoneMissed() {
        for (int l = 0; l < number(real.answer("count", 1)); l++) {
            if (real.answer("listener", l, 6).equals("0")
                    && real.answer("listener", l, 4).equals(real.answer("count", 4))
                    && !real.answer("listener", l, 10).equals("1")) {
                Check.tell("listener " + l + " misses none, but has another list");
                return false;
            }
        }
        return true;
    }

    private boolean call(String name) {
        if (name.equals("append") || name.equals("load")) {
            return random.nextInt(40) > 0 || compare(name, some(name.equals("load") ? 1 : 5, 30));
        }
        // Undo and restore less often, so that much goes on.
        if (random.nextInt(3) > 0 && Arrays.asList("undo", "restore", "fetch").contains(name)) {
            return true;
        }
        for (Method method : FACE) {
            if (method.getName().equals(name)) {
                int parameters = method.getParameterCount();
                return compare(name, random.nextInt(15) == 0 ? wild(parameters)
                        : arguments(name, parameters));
            }
        }
        throw new IllegalStateException(name);
    }

    /** Arguments from the edges of all that the document bounds. */
    private int[] wild(int size) {
        int[] wild = new int[size];
        for (int i = 0; i < size; i++) {
            wild[i] = random.nextInt(3) == 0 ? random.nextInt(3)
                    : EDGES[random.nextInt(EDGES.length)];
        }
        return wild;
    }

    private int[] some(int size, int most) {
        int[] some = new int[size];
        for (int i = 0; i < size; i++) {
            some[i] = random.nextInt(most);
        }
        return some;
    }

    private boolean compare(String name, int... args) {
        String call = name + Arrays.toString(args);
        calls.add(call);
        String want = model.answer(name, args);
        String got = real.answer(name, args);
        if (!want.equals(got)) {
            for (String earlier : calls) {
                System.out.println("  " + earlier);
            }
            Check.tell(call + " answered " + got + ", the model says " + want);
        }
        return want.equals(got);
    }

    private boolean put(String text) {
        for (int at = 0; at < text.length(); at += 20) {
            int[] words = new int[5];
            for (int i = 0; i < 20; i++) {
                int sign = at + i < text.length() ? text.charAt(at + i) : ' ';
                words[i / 4] |= sign << (24 - 8 * (i % 4));
            }
            if (!compare("append", words)) {
                return false;
            }
        }
        return compare("load", text.length()) && compare("parseError") && compare("errorPosition")
                && compare("buffered");
    }

    private int listener() {
        return random.nextInt(60) == 0 ? random.nextInt(10) - 3 : random.nextInt(3);
    }

    private int list() {
        return random.nextInt(4) == 0 ? -1 : listener();
    }

    /** A number from least to most, sometimes one beside these. */
    private int near(int least, int most) {
        if (random.nextInt(80) == 0) {
            int[] far = {least - 1, most + 1, Integer.MIN_VALUE, Integer.MAX_VALUE, -1};
            return far[random.nextInt(far.length)];
        }
        return least + random.nextInt(most - least + 1);
    }

    private int time() {
        int now = Math.max(0, number(model.answer("count", 3)));
        return Math.min(9999, Math.max(0, now - 5 + random.nextInt(40)));
    }

    private static int number(String answer) {
        return answer.startsWith("I") ? 0 : Integer.parseInt(answer);
    }

    private int length() {
        return air[0] == 0 ? near(1, 20) : near(1, 6 * air[0]);
    }

    private int latest() {
        return number(model.answer("count", 4));
    }

    private int[] arguments(String name, int parameters) {
        switch (name) {
            case "correct": {
                int from = random.nextInt(8) * 10;
                return new int[] {slot(), near(0, 29) % 4, near(0, 6) % 3, near(from, from),
                    from + near(1, 40), length()};
            }
            case "cancel":
                return new int[] {slot(), length()};
            case "repeat":
                return new int[] {near(1, Math.max(1, latest())), length()};
            case "whole":
                return new int[] {length()};
            case "tick":
                return new int[] {random.nextInt(10) == 0 ? near(1, 60) : near(1, 4)};
            case "addGap": {
                int begin = time();
                return new int[] {listener(), begin, begin + near(0, 12)};
            }
            case "dropGap":
            case "missing":
                return new int[] {listener(), near(0, 3)};
            case "setDelay":
                return new int[] {listener(), near(0, 9)};
            case "setPeriod":
                return new int[] {air[1] == 0 ? near(0, 99) : near(0, 9 * air[1])};
            default:
                return queryArguments(name, parameters);
        }
    }

    private int slot() {
        return random.nextInt(5) == 0 ? near(0, 11) : random.nextInt(4);
    }

    private int[] queryArguments(String name, int parameters) {
        switch (name) {
            case "count":
                return new int[] {near(0, 11)};
            case "stop":
                return new int[] {list(), slot(), near(0, 4)};
            case "onAir":
                return new int[] {random.nextInt(1 + number(model.answer("count", 5))
                        + number(model.answer("count", 6))), near(0, 5)};
            case "number":
                return new int[] {near(1, Math.max(1, latest())), near(0, 4)};
            case "minutes":
                return new int[] {list(), near(0, 29) % 5};
            case "stands":
            case "nextAt":
                return new int[] {list(), near(0, 6) % 4, near(0, 1439) % 120};
            case "merged":
            case "writeDay":
                return new int[] {list(), near(0, 6) % 4};
            case "mergedStop":
                return new int[] {list(), near(0, 6) % 3, near(0, 3), near(0, 3)};
            case "listener":
                return new int[] {listener(), near(0, 11)};
            case "gap":
                return new int[] {listener(), near(0, 3), near(0, 1)};
            case "hasHeard":
            case "heardIn":
                return new int[] {listener(), near(1, Math.max(1, latest()))};
            case "isSame":
                return new int[] {list(), list()};
            case "missingIn":
            case "wrongIn":
                return new int[] {listener(), random.nextBoolean() ? near(0, 200) : near(0, 30)};
            case "sameWith":
                return new int[] {listener(), near(0, 99)};
            case "textByte":
                return new int[] {near(0, 40)};
            case "save":
            case "restore":
                return new int[] {near(0, 1)};
            default:
                return parameters == 0 ? new int[0] : new int[] {listener()};
        }
    }

    private String text() {
        StringBuilder text = new StringBuilder("radio ").append(random.nextInt(12));
        int listeners = 1 + random.nextInt(random.nextInt(4) == 0 ? 6 : 3);
        int stops = random.nextInt(10);
        while (listeners + stops > 0) {
            if (random.nextInt(listeners + stops) < listeners) {
                listeners--;
                text.append(";hears ").append(random.nextInt(10));
                for (int i = random.nextInt(4); i > 0; i--) {
                    int begin = random.nextInt(60);
                    text.append(" off ").append(begin).append(' ').append(begin + random.nextInt(9));
                }
            } else {
                stops--;
                int from = random.nextInt(8) * 10;
                text.append(";stop ").append(random.nextInt(4)).append(' ').append(random.nextInt(3))
                        .append(' ').append(from).append(' ').append(from + 1 + random.nextInt(40));
            }
        }
        return text.length() > 500 ? "radio 1;hears 1" : text.toString();
    }

    /** Changes some places of a text: a byte, a piece twice, a piece away, or the end. */
    private String broken(String whole) {
        String signs = "az09 ;,@5rshof{`/:" + (char) 200;
        StringBuilder text = new StringBuilder(whole);
        for (int i = random.nextInt(3); i >= 0; i--) {
            int at = random.nextInt(text.length());
            int end = Math.min(text.length(), at + random.nextInt(30));
            switch (random.nextInt(5)) {
                case 0:
                    text.setCharAt(at, signs.charAt(random.nextInt(signs.length())));
                    break;
                case 1:
                    text.insert(end, text.substring(at, end));
                    break;
                case 2:
                    text.delete(at, end);
                    break;
                case 3:
                    text.insert(at, signs.charAt(random.nextInt(signs.length())));
                    break;
                default:
                    text.setLength(Math.max(at, 1));
                    break;
            }
            if (text.length() == 0) {
                text.append(' ');
            }
        }
        return text.length() > 500 ? text.substring(0, 500) : text.toString();
    }
}
