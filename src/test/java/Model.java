import java.util.ArrayList;
import java.util.Arrays;
import java.util.Comparator;
import java.util.List;
import java.util.TreeSet;
import java.util.regex.Matcher;
import java.util.regex.Pattern;

/**
 * The document once more, minute by minute and with copies of everything, as slow and plain as it
 * can be: what BookmobileRadio answers is compared with this in random runs.
 */
public final class Model {
    /** A stop is a list of PLACE, DAY, FROM and TO; null is a free slot. */
    private static final class Stops {
        final List<List<Integer>> stop = new ArrayList<>();
        final List<Integer> version = new ArrayList<>();

        Stops() {
            for (int k = 0; k < 12; k++) {
                stop.add(null);
                version.add(0);
            }
        }

        Stops copy() {
            Stops copy = new Stops();
            for (int k = 0; k < 12; k++) {
                copy.take(this, k);
            }
            return copy;
        }

        void take(Stops other, int k) {
            stop.set(k, other.stop.get(k));
            version.set(k, other.version.get(k));
        }

        int differing(Stops other) {
            int bits = 0;
            for (int k = 0; k < 12; k++) {
                List<Integer> mine = stop.get(k);
                List<Integer> its = other.stop.get(k);
                if (mine == null ? its != null : !mine.equals(its)) {
                    bits |= 1 << k;
                }
            }
            return bits;
        }

        int at(int day, int minute) {
            for (List<Integer> s : stop) {
                if (s != null && s.get(1) == day && s.get(2) <= minute && minute < s.get(3)) {
                    return s.get(0);
                }
            }
            return -1;
        }

        int[] week() {
            int[] week = new int[7 * 1440];
            for (int i = 0; i < week.length; i++) {
                week[i] = at(i / 1440, i % 1440);
            }
            return week;
        }

        /** PLACE, FROM, TO and the number of stops of each merged one. */
        List<int[]> merge(int day) {
            List<int[]> merged = new ArrayList<>();
            for (List<Integer> s : stop) {
                if (s != null && s.get(1) == day) {
                    merged.add(new int[] {s.get(0), s.get(2), s.get(3), 1});
                }
            }
            while (mergeTwo(merged)) {
                continue;
            }
            merged.sort(Comparator.<int[]>comparingInt(m -> m[1]).thenComparingInt(m -> m[0]));
            return merged;
        }

        private static boolean mergeTwo(List<int[]> merged) {
            for (int[] a : merged) {
                for (int[] b : merged) {
                    if (a != b && a[0] == b[0] && a[1] <= b[2] && b[1] <= a[2]) {
                        a[1] = Math.min(a[1], b[1]);
                        a[2] = Math.max(a[2], b[2]);
                        a[3] += b[3];
                        merged.remove(b);
                        return true;
                    }
                }
            }
            return false;
        }
    }

    private static final class Ear {
        int delay;
        List<int[]> gaps = new ArrayList<>();
        Stops stops;
        TreeSet<Integer> heard = new TreeSet<>();
        int base;
        int greatest;
        int dropped;
        int wholes;
        int unheard;

        Ear copy() {
            Ear copy = new Ear();
            copy.delay = delay;
            copy.gaps = new ArrayList<>(gaps);
            copy.stops = stops.copy();
            copy.heard = new TreeSet<>(heard);
            copy.base = base;
            copy.greatest = greatest;
            copy.dropped = dropped;
            copy.wholes = wholes;
            copy.unheard = unheard;
            return copy;
        }

        boolean deaf(int time) {
            return gaps.stream().anyMatch(g -> g[0] <= time && time <= g[1]);
        }

        List<Integer> missing() {
            List<Integer> missing = new ArrayList<>();
            for (int n = base + 1; n < greatest; n++) {
                if (!heard.contains(n)) {
                    missing.add(n);
                }
            }
            return missing;
        }

        void hear(Wave wave) {
            greatest = Math.max(greatest, wave.number);
            if (wave.slot == -1) {
                wholes++;
                base = Math.max(base, wave.number);
                for (int k = 0; k < 12; k++) {
                    if (wave.told.version.get(k) >= stops.version.get(k)) {
                        stops.take(wave.told, k);
                    }
                }
                return;
            }
            heard.add(wave.number);
            if (wave.number > stops.version.get(wave.slot)) {
                stops.take(wave.told, wave.slot);
            } else {
                dropped++;
            }
        }
    }

    /** What is on the air never changes once it is there. */
    private static final class Wave {
        int number;
        int slot;
        int start;
        int length;
        int order;
        Stops told;
        List<Integer> due = new ArrayList<>();

        int first() {
            return due.stream().mapToInt(d -> d).min().getAsInt();
        }

        int last() {
            return due.stream().mapToInt(d -> d).max().getAsInt();
        }
    }

    private static final Comparator<Wave> HEARING = Comparator.<Wave>comparingInt(w -> w.number)
            .thenComparingInt(w -> w.slot == -1 ? 1 : 0).thenComparingInt(w -> w.order);

    private static final class State {
        int period;
        int time;
        int sent;
        int wholes;
        int leftOut;
        Stops published = new Stops();
        /** Of each correction: the list as it was told, its slot and time. */
        List<Stops> told = new ArrayList<>();
        List<int[]> when = new ArrayList<>();
        List<Wave> air = new ArrayList<>();
        List<Ear> ears = new ArrayList<>();

        State copy() {
            State copy = new State();
            copy.period = period;
            copy.time = time;
            copy.sent = sent;
            copy.wholes = wholes;
            copy.leftOut = leftOut;
            copy.published = published.copy();
            copy.told = new ArrayList<>(told);
            copy.when = new ArrayList<>(when);
            copy.air = new ArrayList<>(air);
            for (Ear ear : ears) {
                copy.ears.add(ear.copy());
            }
            return copy;
        }

        void send(int number, int slot, Stops what, int length) {
            Wave wave = new Wave();
            wave.number = number;
            wave.slot = slot;
            wave.start = time;
            wave.length = length;
            wave.order = sent++;
            wave.told = what;
            for (Ear ear : ears) {
                wave.due.add(time + length + ear.delay);
            }
            air.add(wave);
        }

        void whole(int length) {
            wholes++;
            send(told.size(), -1, published.copy(), length);
        }

        void tick() {
            time++;
            if (period > 0 && time % period == 0) {
                if (air.size() < 30) {
                    whole(5);
                } else {
                    leftOut++;
                }
            }
            for (int l = 0; l < ears.size(); l++) {
                Ear ear = ears.get(l);
                List<Wave> due = new ArrayList<>();
                for (Wave wave : air) {
                    if (wave.due.get(l) == time) {
                        due.add(wave);
                    }
                }
                due.sort(HEARING);
                for (Wave wave : due) {
                    if (ear.deaf(time)) {
                        ear.unheard++;
                    } else {
                        ear.hear(wave);
                    }
                }
            }
            air.removeIf(wave -> wave.last() <= time);
        }

        State after(int ticks) {
            State then = copy();
            for (int i = 0; i < ticks; i++) {
                then.tick();
            }
            return then;
        }

        boolean same(int l) {
            return ears.get(l).stops.differing(published) == 0;
        }

        int sameCount() {
            int same = 0;
            for (int l = 0; l < ears.size(); l++) {
                same += same(l) ? 1 : 0;
            }
            return same;
        }

        int sameIn(int l) {
            State then = copy();
            for (int ticks = 0; ticks <= 200; ticks++) {
                if (then.same(l)) {
                    return ticks;
                }
                then.tick();
            }
            return -1;
        }

        int wrong(int l) {
            int[] mine = ears.get(l).stops.week();
            int[] right = published.week();
            int wrong = 0;
            for (int i = 0; i < mine.length; i++) {
                wrong += mine[i] != right[i] ? 1 : 0;
            }
            return wrong;
        }
    }

    private StringBuilder buffer = new StringBuilder();
    private int error;
    private int errorAt = -1;
    private State now;
    private final List<State> past = new ArrayList<>();
    private final State[] saved = new State[2];
    private String text = "";

    private static void argument(boolean fine) {
        if (!fine) {
            throw new IllegalArgumentException();
        }
    }

    private static void index(boolean fine) {
        if (!fine) {
            throw new IndexOutOfBoundsException();
        }
    }

    private static boolean in(int value, int least, int most) {
        return least <= value && value <= most;
    }

    private State state() {
        if (now == null) {
            throw new IllegalStateException();
        }
        return now;
    }

    private Ear ear(int l) {
        state();
        index(in(l, 0, now.ears.size() - 1));
        return now.ears.get(l);
    }

    private Stops stops(int l) {
        return l == -1 ? state().published : ear(l).stops;
    }

    // ---- input

    public int append(int a, int b, int c, int d, int e) {
        if (buffer.length() + 20 > 500) {
            return -1;
        }
        for (int word : new int[] {a, b, c, d, e}) {
            buffer.append((char) (word >>> 24)).append((char) (word >>> 16 & 255))
                    .append((char) (word >>> 8 & 255)).append((char) (word & 255));
        }
        return buffer.length();
    }

    private static final class Fault extends RuntimeException {
        final int code;
        final int at;

        Fault(int code, int at) {
            this.code = code;
            this.at = at;
        }
    }

    private static final Pattern TOKEN = Pattern.compile("[a-z]+|[0-9]+|[^ ]", Pattern.DOTALL);

    private static final class Parser {
        final List<String> tokens = new ArrayList<>();
        final List<Integer> starts = new ArrayList<>();
        int next;

        Parser(String source) {
            Matcher matcher = TOKEN.matcher(source);
            while (matcher.find()) {
                tokens.add(matcher.group());
                starts.add(matcher.start());
            }
            tokens.add("");
            starts.add(source.length());
        }

        String peek() {
            return tokens.get(next);
        }

        Fault fault(int code) {
            return new Fault(code, starts.get(next));
        }

        void literal(String literal) {
            if (!peek().equals(literal)) {
                throw fault(1);
            }
            next++;
        }

        int number(int least, int most) {
            if (!peek().matches("[0-9]{1,4}")) {
                throw fault(1);
            }
            int value = Integer.parseInt(peek());
            if (!in(value, least, most)) {
                throw fault(2);
            }
            next++;
            return value;
        }

        State radio() {
            State state = new State();
            literal("radio");
            state.period = number(0, 99);
            int slot = 0;
            while (!peek().isEmpty()) {
                literal(";");
                if (peek().equals("stop")) {
                    if (slot == 12) {
                        throw fault(3);
                    }
                    next++;
                    Integer[] stop = {number(0, 29), number(0, 6), number(0, 1438), 0};
                    stop[3] = number(stop[2] + 1, 1439);
                    state.published.stop.set(slot++, Arrays.asList(stop));
                } else {
                    state.ears.add(hears(state.ears.size()));
                }
            }
            if (state.ears.isEmpty()) {
                throw fault(1);
            }
            for (Ear ear : state.ears) {
                ear.stops = state.published.copy();
            }
            return state;
        }

        Ear hears(int before) {
            if (peek().equals("hears") && before == 6) {
                throw fault(3);
            }
            literal("hears");
            Ear ear = new Ear();
            ear.delay = number(0, 9);
            while (peek().equals("off")) {
                if (ear.gaps.size() == 4) {
                    throw fault(3);
                }
                next++;
                int begin = number(0, 9999);
                ear.gaps.add(new int[] {begin, number(begin, 9999)});
            }
            return ear;
        }
    }

    public int load(int n) {
        index(in(n, 0, buffer.length()));
        String source = buffer.substring(0, n);
        buffer = new StringBuilder();
        try {
            now = new Parser(source).radio();
        } catch (Fault fault) {
            error = fault.code;
            errorAt = fault.at;
            throw new IllegalArgumentException();
        }
        error = 0;
        errorAt = -1;
        past.clear();
        saved[0] = null;
        saved[1] = null;
        return now.ears.size();
    }

    public int parseError() {
        return error;
    }

    public int errorPosition() {
        return errorAt;
    }

    public int buffered() {
        return buffer.length();
    }

    // ---- the published list and the air

    public int count(int what) {
        State s = state();
        argument(in(what, 0, 11));
        long onAir = s.air.stream().filter(w -> w.slot == -1).count();
        long[] counts = {s.published.stop.stream().filter(x -> x != null).count(), s.ears.size(),
            s.period, s.time, s.told.size(), s.air.size() - onAir, onAir, s.wholes, s.leftOut,
            s.sameCount(), s.ears.stream().mapToInt(e -> e.dropped).sum(),
            s.ears.stream().mapToInt(e -> e.unheard).sum()};
        return (int) counts[what];
    }

    public int stop(int l, int k, int what) {
        Stops stops = stops(l);
        index(in(k, 0, 11));
        argument(in(what, 0, 4));
        if (what == 4) {
            return stops.version.get(k);
        }
        return stops.stop.get(k) == null ? -1 : stops.stop.get(k).get(what);
    }

    public int onAir(int i, int what) {
        List<Wave> air = new ArrayList<>(state().air);
        index(in(i, 0, air.size() - 1));
        argument(in(what, 0, 5));
        air.sort(Comparator.<Wave>comparingInt(Wave::first).thenComparing(HEARING));
        Wave wave = air.get(i);
        int still = 0;
        for (int l = 0; l < now.ears.size(); l++) {
            still += wave.due.get(l) > now.time ? 1 << l : 0;
        }
        return new int[] {wave.number, wave.slot, wave.start, wave.length, wave.first(), still}[what];
    }

    public int number(int n, int what) {
        State s = state();
        argument(in(n, 1, s.told.size()) && in(what, 0, 4));
        int slot = s.when.get(n - 1)[0];
        List<Integer> stop = s.told.get(n - 1).stop.get(slot);
        int heard = 0;
        for (int l = 0; l < s.ears.size(); l++) {
            heard += s.ears.get(l).heard.contains(n) ? 1 << l : 0;
        }
        boolean onAir = s.air.stream().anyMatch(w -> w.number == n && w.slot != -1);
        return new int[] {slot, stop == null ? -1 : stop.get(0), s.when.get(n - 1)[1], heard,
            onAir ? 1 : 0}[what];
    }

    public int minutes(int l, int place) {
        Stops stops = stops(l);
        argument(in(place, 0, 29));
        return (int) Arrays.stream(stops.week()).filter(p -> p == place).count();
    }

    public int stands(int l, int day, int minute) {
        Stops stops = stops(l);
        argument(in(day, 0, 6) && in(minute, 0, 1439));
        return stops.at(day, minute);
    }

    public int nextAt(int l, int day, int minute) {
        Stops stops = stops(l);
        argument(in(day, 0, 6) && in(minute, 0, 1439));
        for (int m = minute; m < 1440; m++) {
            if (stops.at(day, m) != -1) {
                return m;
            }
        }
        return -1;
    }

    public int clashes(int l) {
        Stops stops = stops(l);
        int clashes = 0;
        for (int a = 0; a < 12; a++) {
            for (int b = a + 1; b < 12; b++) {
                List<Integer> x = stops.stop.get(a);
                List<Integer> y = stops.stop.get(b);
                if (x != null && y != null && !x.get(0).equals(y.get(0))
                        && x.get(1).equals(y.get(1)) && x.get(2) < y.get(3) && y.get(2) < x.get(3)) {
                    clashes++;
                }
            }
        }
        return clashes;
    }

    public int merged(int l, int day) {
        Stops stops = stops(l);
        argument(in(day, 0, 6));
        return stops.merge(day).size();
    }

    public int mergedStop(int l, int day, int i, int what) {
        Stops stops = stops(l);
        argument(in(day, 0, 6) && in(what, 0, 3));
        List<int[]> merged = stops.merge(day);
        return in(i, 0, merged.size() - 1) ? merged.get(i)[what] : -1;
    }

    // ---- listeners

    public int listener(int l, int what) {
        Ear e = ear(l);
        argument(in(what, 0, 11));
        return new int[] {e.delay, e.gaps.size(), e.deaf(now.time) ? 1 : 0, e.base, e.greatest,
            e.heard.size(), e.missing().size(), e.dropped, e.wholes,
            e.stops.differing(now.published), now.same(l) ? 1 : 0, e.unheard}[what];
    }

    public int gap(int l, int i, int what) {
        Ear e = ear(l);
        argument(in(what, 0, 1));
        return in(i, 0, e.gaps.size() - 1) ? e.gaps.get(i)[what] : -1;
    }

    public boolean hasHeard(int l, int n) {
        return ear(l).heard.contains(n);
    }

    public int missing(int l, int i) {
        List<Integer> missing = ear(l).missing();
        return in(i, 0, missing.size() - 1) ? missing.get(i) : -1;
    }

    public boolean isSame(int l, int other) {
        return stops(l).differing(stops(other)) == 0;
    }

    public int wrongMinutes(int l) {
        ear(l);
        return now.wrong(l);
    }

    public int worst() {
        int worst = 0;
        for (int l = 1; l < state().ears.size(); l++) {
            worst = now.wrong(l) > now.wrong(worst) ? l : worst;
        }
        return worst;
    }

    public int behind(int l) {
        return now == null ? state().time : now.told.size() - ear(l).greatest;
    }

    public int overtakes(int l) {
        Ear e = ear(l).copy();
        List<Wave> waves = new ArrayList<>(now.air);
        waves.removeIf(w -> w.due.get(l) <= now.time);
        waves.sort(Comparator.<Wave>comparingInt(w -> w.due.get(l)).thenComparing(HEARING));
        waves.forEach(e::hear);
        return e.dropped - ear(l).dropped;
    }

    // ---- what would be

    public int sameIn(int l) {
        ear(l);
        return now.sameIn(l);
    }

    public int allSameIn() {
        State then = state().copy();
        for (int ticks = 0; ticks <= 200; ticks++) {
            if (then.sameCount() == then.ears.size()) {
                return ticks;
            }
            then.tick();
        }
        return -1;
    }

    public int heardIn(int l, int n) {
        ear(l);
        State then = now.copy();
        for (int ticks = 0; ticks <= 200; ticks++) {
            if (then.ears.get(l).heard.contains(n)) {
                return ticks;
            }
            then.tick();
        }
        return -1;
    }

    public int missingIn(int l, int ticks) {
        ear(l);
        argument(in(ticks, 0, 200));
        return now.after(ticks).ears.get(l).missing().size();
    }

    public int wrongIn(int l, int ticks) {
        ear(l);
        argument(in(ticks, 0, 200));
        return now.after(ticks).wrong(l);
    }

    public int quietIn() {
        State then = state().copy();
        for (int ticks = 0; ticks <= 200; ticks++) {
            if (then.air.isEmpty()) {
                return ticks;
            }
            then.tick();
        }
        return -1;
    }

    public int wholeIn() {
        if (state().period == 0) {
            return -1;
        }
        int ticks = 1;
        while ((now.time + ticks) % now.period != 0) {
            ticks++;
        }
        return ticks;
    }

    public int sameWithout(int l) {
        ear(l);
        State then = now.copy();
        then.ears.get(l).gaps.clear();
        return then.sameIn(l);
    }

    public int sameWith(int l, int period) {
        ear(l);
        argument(in(period, 0, 99));
        State then = now.copy();
        then.period = period;
        return then.sameIn(l);
    }

    public int bestPeriod(int l) {
        ear(l);
        int best = 1;
        int least = Integer.MAX_VALUE;
        for (int period = 1; period <= 99; period++) {
            int ticks = sameWith(l, period);
            ticks = ticks == -1 ? 1000 : ticks;
            if (ticks <= least) {
                least = ticks;
                best = period;
            }
        }
        return best;
    }

    public float sameShare() {
        int same = 0;
        for (Ear e : state().ears) {
            same += 12 - Integer.bitCount(e.stops.differing(now.published));
        }
        return (float) same / (float) (12 * now.ears.size());
    }

    public double meanBehind() {
        int sum = 0;
        for (int l = 0; l < state().ears.size(); l++) {
            sum += behind(l);
        }
        return (double) sum / (double) now.ears.size();
    }

    // ---- texts

    public int writeDay(int l, int day) {
        Stops stops = stops(l);
        argument(in(day, 0, 6));
        List<String> words = new ArrayList<>();
        for (int[] m : stops.merge(day)) {
            words.add(m[0] + "@" + m[1] + "-" + m[2]);
        }
        text = words.isEmpty() ? "-" : String.join(" ", words);
        return text.length();
    }

    public int writeMissing(int l) {
        List<Integer> missing = ear(l).missing();
        List<String> runs = new ArrayList<>();
        for (int i = 0; i < missing.size(); i++) {
            int first = missing.get(i);
            while (i + 1 < missing.size() && missing.get(i + 1) == missing.get(i) + 1) {
                i++;
            }
            int last = missing.get(i);
            runs.add(first == last ? "" + first : first + "-" + last);
        }
        text = runs.isEmpty() ? "*" : String.join(",", runs);
        return text.length();
    }

    public int textByte(int i) {
        index(in(i, 0, text.length() - 1));
        return text.charAt(i);
    }

    // ---- changes

    private void change() {
        past.add(now.copy());
        if (past.size() > 8) {
            past.remove(0);
        }
    }

    private int publish(int k, List<Integer> stop, int length) {
        change();
        int number = now.told.size() + 1;
        now.published.stop.set(k, stop);
        now.published.version.set(k, number);
        now.told.add(now.published.copy());
        now.when.add(new int[] {k, now.time});
        now.send(number, k, now.published.copy(), length);
        return number;
    }

    public int correct(int k, int place, int day, int from, int to, int length) {
        state();
        index(in(k, 0, 11));
        argument(in(place, 0, 29) && in(day, 0, 6) && in(from, 0, 1438) && in(to, from + 1, 1439)
                && in(length, 1, 20) && now.told.size() < 99 && now.air.size() < 30);
        return publish(k, Arrays.asList(place, day, from, to), length);
    }

    public int cancel(int k, int length) {
        state();
        index(in(k, 0, 11));
        argument(in(length, 1, 20) && now.told.size() < 99 && now.air.size() < 30);
        return publish(k, null, length);
    }

    public int repeat(int n, int length) {
        state();
        argument(in(n, 1, now.told.size()) && in(length, 1, 20) && now.air.size() < 30);
        change();
        int slot = now.when.get(n - 1)[0];
        now.send(n, slot, now.told.get(n - 1), length);
        return slot;
    }

    public int whole(int length) {
        state();
        argument(in(length, 1, 20) && now.air.size() < 30);
        change();
        now.whole(length);
        return now.told.size();
    }

    public int tick(int n) {
        state();
        argument(in(n, 1, 60) && now.time + n <= 9999);
        change();
        now = now.after(n);
        return now.sameCount();
    }

    public int addGap(int l, int begin, int end) {
        ear(l);
        argument(in(begin, 0, 9999) && in(end, begin, 9999) && ear(l).gaps.size() < 4);
        change();
        ear(l).gaps.add(new int[] {begin, end});
        return ear(l).gaps.size();
    }

    public int dropGap(int l, int i) {
        index(in(i, 0, ear(l).gaps.size() - 1));
        change();
        ear(l).gaps.remove(i);
        return ear(l).gaps.size();
    }

    public int setDelay(int l, int delay) {
        int before = ear(l).delay;
        argument(in(delay, 0, 9));
        change();
        ear(l).delay = delay;
        return before;
    }

    public int setPeriod(int period) {
        int before = state().period;
        argument(in(period, 0, 99));
        change();
        now.period = period;
        return before;
    }

    public int fetch(int l) {
        int differing = ear(l).stops.differing(now.published);
        change();
        ear(l).stops = now.published.copy();
        ear(l).base = Math.max(ear(l).base, now.told.size());
        return differing;
    }

    public int undo() {
        if (past.isEmpty()) {
            throw new IllegalStateException();
        }
        now = past.remove(past.size() - 1);
        return past.size();
    }

    public int undoable() {
        return past.size();
    }

    public int save(int slot) {
        state();
        index(in(slot, 0, 1));
        saved[slot] = now.copy();
        return now.time;
    }

    public int restore(int slot) {
        index(in(slot, 0, 1));
        if (saved[slot] == null) {
            throw new IllegalStateException();
        }
        now = saved[slot].copy();
        past.clear();
        return now.time;
    }
}
