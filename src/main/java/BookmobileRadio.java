/**
 * A bookmobile whose stops are published by radio: numbered corrections and whole lists that
 * listeners hear later, in part, or never. Each public method answers the promise of its name in
 * the document.
 */
public final class BookmobileRadio {
    public static final int NONE = -1;

    private static final int SLOTS = 12;
    private static final int PLACES = 30;
    private static final int DAYS = 7;
    private static final int MINUTES = 1440;
    private static final int LAST_MINUTE = 1439;
    private static final int MOST_LISTENERS = 6;
    private static final int MOST_GAPS = 4;
    private static final int MOST_DELAY = 9;
    private static final int MOST_PERIOD = 99;
    private static final int MOST_LENGTH = 20;
    private static final int OWN_LENGTH = 5;
    private static final int LAST_NUMBER = 99;
    private static final int ROOM_ON_AIR = 30;
    private static final int LAST_TIME = 9999;
    private static final int MOST_TICKS = 60;
    private static final int HORIZON = 200;
    private static final int MOST_UNDO = 8;
    private static final int SAVES = 2;
    private static final int BUFFER = 500;
    private static final int APPENDED = 20;
    private static final int TEXT_ROOM = 256;

    private final Reader reader = new Reader();
    private final Radio radio = new Radio();
    /** For what is not real: a text that may still have an error, and what would be. */
    private final Radio spare = new Radio();
    private final History history = new History();
    private final Radio[] saved = new Radio[SAVES];
    private final boolean[] hasSaved = new boolean[SAVES];
    private final Merging merging = new Merging();
    private final Text text = new Text();
    private boolean loaded;

    public BookmobileRadio() {
        for (int slot = 0; slot < SAVES; slot++) {
            saved[slot] = new Radio();
        }
    }

    // ---- input

    public int append(int a, int b, int c, int d, int e) {
        if (!reader.hasRoom()) {
            return NONE;
        }
        reader.takeIn(a);
        reader.takeIn(b);
        reader.takeIn(c);
        reader.takeIn(d);
        reader.takeIn(e);
        return reader.size;
    }

    public int load(int n) throws IndexOutOfBoundsException, IllegalArgumentException {
        if (n < 0 || n > reader.size) {
            throw new IndexOutOfBoundsException("not so many bytes in the buffer");
        }
        if (!reader.parse(n, spare)) {
            throw new IllegalArgumentException("the text has an error");
        }
        radio.copyFrom(spare);
        history.forget();
        for (int slot = 0; slot < SAVES; slot++) {
            hasSaved[slot] = false;
        }
        loaded = true;
        return radio.listeners;
    }

    public int parseError() {
        return reader.error;
    }

    public int errorPosition() {
        return reader.errorAt;
    }

    public int buffered() {
        return reader.size;
    }

    // ---- the published list and the air

    public int count(int what) throws IllegalStateException, IllegalArgumentException {
        needRadio();
        switch (what) {
            case 0:
                return radio.told.stopsIn(radio.published);
            case 1:
                return radio.listeners;
            case 2:
                return radio.period;
            case 3:
                return radio.time;
            case 4:
                return radio.told.latest;
            case 5:
                return radio.air.size - radio.air.wholeLists();
            case 6:
                return radio.air.wholeLists();
            case 7:
                return radio.wholesSent;
            case 8:
                return radio.wholesLeftOut;
            case 9:
                return radio.sameListeners();
            case 10:
                return radio.allDropped();
            case 11:
                return radio.allUnheard();
            default:
                throw new IllegalArgumentException("no such count");
        }
    }

    public int stop(int l, int k, int what)
            throws IllegalStateException, IndexOutOfBoundsException, IllegalArgumentException {
        needRadio();
        needList(l);
        needSlot(k);
        needBetween(what, 0, 4);
        int version = radio.listOf(l)[k];
        if (what == 4) {
            return version;
        }
        return radio.told.property(radio.told.rowOf(k, version), what);
    }

    public int onAir(int i, int what)
            throws IllegalStateException, IndexOutOfBoundsException, IllegalArgumentException {
        needRadio();
        if (i < 0 || i >= radio.air.size) {
            throw new IndexOutOfBoundsException("not so many on the air");
        }
        Signal signal = radio.air.byFirstDue(i);
        switch (what) {
            case 0:
                return signal.number;
            case 1:
                return signal.slot;
            case 2:
                return signal.begun;
            case 3:
                return signal.length;
            case 4:
                return signal.firstDue;
            case 5:
                return signal.stillToHear(radio.listeners, radio.time);
            default:
                throw new IllegalArgumentException("no such property");
        }
    }

    public int number(int n, int what) throws IllegalStateException, IllegalArgumentException {
        needRadio();
        needCorrection(n);
        switch (what) {
            case 0:
                return radio.told.slot[n];
            case 1:
                return radio.told.place[radio.told.rowOf(radio.told.slot[n], n)];
            case 2:
                return radio.told.publishedAt[n];
            case 3:
                return radio.told.heardBy[n];
            case 4:
                return radio.air.hasCorrection(n) ? 1 : 0;
            default:
                throw new IllegalArgumentException("no such property");
        }
    }

    public int minutes(int l, int place)
            throws IllegalStateException, IndexOutOfBoundsException, IllegalArgumentException {
        needRadio();
        needList(l);
        needBetween(place, 0, PLACES - 1);
        return Week.minutesAt(radio.told, radio.listOf(l), place);
    }

    public int stands(int l, int day, int minute)
            throws IllegalStateException, IndexOutOfBoundsException, IllegalArgumentException {
        needRadio();
        needList(l);
        needBetween(day, 0, DAYS - 1);
        needBetween(minute, 0, LAST_MINUTE);
        return Week.placeAt(radio.told, radio.listOf(l), day, minute);
    }

    public int nextAt(int l, int day, int minute)
            throws IllegalStateException, IndexOutOfBoundsException, IllegalArgumentException {
        needRadio();
        needList(l);
        needBetween(day, 0, DAYS - 1);
        needBetween(minute, 0, LAST_MINUTE);
        return Week.firstMinute(radio.told, radio.listOf(l), day, minute);
    }

    public int clashes(int l) throws IllegalStateException, IndexOutOfBoundsException {
        needRadio();
        needList(l);
        return Week.clashing(radio.told, radio.listOf(l));
    }

    public int merged(int l, int day)
            throws IllegalStateException, IndexOutOfBoundsException, IllegalArgumentException {
        needRadio();
        needList(l);
        needBetween(day, 0, DAYS - 1);
        merging.collect(radio.told, radio.listOf(l), day);
        return merging.size;
    }

    public int mergedStop(int l, int day, int i, int what)
            throws IllegalStateException, IndexOutOfBoundsException, IllegalArgumentException {
        needRadio();
        needList(l);
        needBetween(day, 0, DAYS - 1);
        needBetween(what, 0, 3);
        merging.collect(radio.told, radio.listOf(l), day);
        if (i < 0 || i >= merging.size) {
            return NONE;
        }
        return merging.property(i, what);
    }

    // ---- listeners

    public int listener(int l, int what)
            throws IllegalStateException, IndexOutOfBoundsException, IllegalArgumentException {
        needRadio();
        needListener(l);
        Listener one = radio.listener[l];
        switch (what) {
            case 0:
                return one.delay;
            case 1:
                return one.gaps;
            case 2:
                return one.isInGap(radio.time) ? 1 : 0;
            case 3:
                return one.base;
            case 4:
                return one.greatest;
            case 5:
                return radio.numbersHeard(l);
            case 6:
                return radio.numbersMissed(l);
            case 7:
                return one.dropped;
            case 8:
                return one.wholesHeard;
            case 9:
                return radio.differing(l);
            case 10:
                return radio.isPublished(l) ? 1 : 0;
            case 11:
                return one.unheard;
            default:
                throw new IllegalArgumentException("no such property");
        }
    }

    public int gap(int l, int i, int what)
            throws IllegalStateException, IndexOutOfBoundsException, IllegalArgumentException {
        needRadio();
        needListener(l);
        needBetween(what, 0, 1);
        Listener one = radio.listener[l];
        if (i < 0 || i >= one.gaps) {
            return NONE;
        }
        return what == 0 ? one.gapBegin[i] : one.gapEnd[i];
    }

    public boolean hasHeard(int l, int n) throws IllegalStateException, IndexOutOfBoundsException {
        needRadio();
        needListener(l);
        return radio.knows(l, n);
    }

    public int missing(int l, int i) throws IllegalStateException, IndexOutOfBoundsException {
        needRadio();
        needListener(l);
        int left = i;
        for (int n = 1; n <= LAST_NUMBER; n++) {
            if (radio.misses(l, n)) {
                if (left == 0) {
                    return n;
                }
                left--;
            }
        }
        return NONE;
    }

    public boolean isSame(int l, int other)
            throws IllegalStateException, IndexOutOfBoundsException {
        needRadio();
        needList(l);
        needList(other);
        return radio.told.differences(radio.listOf(l), radio.listOf(other)) == 0;
    }

    public int wrongMinutes(int l) throws IllegalStateException, IndexOutOfBoundsException {
        needRadio();
        needListener(l);
        return radio.minutesWrong(l);
    }

    public int worst() throws IllegalStateException {
        needRadio();
        int worst = 0;
        int most = 0;
        for (int l = 0; l < radio.listeners; l++) {
            int wrong = radio.minutesWrong(l);
            if (wrong > most) {
                worst = l;
                most = wrong;
            }
        }
        return worst;
    }

    public int behind(int l) throws IllegalStateException, IndexOutOfBoundsException {
        needRadio();
        needListener(l);
        return radio.numbersBehind(l);
    }

    public int overtakes(int l) throws IllegalStateException, IndexOutOfBoundsException {
        needRadio();
        needListener(l);
        spare.copyFrom(radio);
        Listener one = spare.listener[l];
        one.gaps = 0;
        spare.period = 0;
        one.dropped = 0;
        spare.passTicks(MOST_LENGTH + MOST_DELAY);
        return one.dropped;
    }

    // ---- what would be if only ticks pass

    public int sameIn(int l) throws IllegalStateException, IndexOutOfBoundsException {
        needRadio();
        needListener(l);
        spare.copyFrom(radio);
        return spare.ticksUntilSame(l, HORIZON);
    }

    public int allSameIn() throws IllegalStateException {
        needRadio();
        spare.copyFrom(radio);
        for (int ticks = 0; ticks <= HORIZON; ticks++) {
            if (spare.sameListeners() == spare.listeners) {
                return ticks;
            }
            spare.passTick();
        }
        return NONE;
    }

    public int heardIn(int l, int n) throws IllegalStateException, IndexOutOfBoundsException {
        needRadio();
        needListener(l);
        spare.copyFrom(radio);
        for (int ticks = 0; ticks <= HORIZON; ticks++) {
            if (spare.knows(l, n)) {
                return ticks;
            }
            spare.passTick();
        }
        return NONE;
    }

    public int missingIn(int l, int ticks)
            throws IllegalStateException, IndexOutOfBoundsException, IllegalArgumentException {
        needRadio();
        needListener(l);
        needBetween(ticks, 0, HORIZON);
        spare.copyFrom(radio);
        spare.passTicks(ticks);
        return spare.numbersMissed(l);
    }

    public int wrongIn(int l, int ticks)
            throws IllegalStateException, IndexOutOfBoundsException, IllegalArgumentException {
        needRadio();
        needListener(l);
        needBetween(ticks, 0, HORIZON);
        spare.copyFrom(radio);
        spare.passTicks(ticks);
        return spare.minutesWrong(l);
    }

    public int quietIn() throws IllegalStateException {
        needRadio();
        spare.copyFrom(radio);
        for (int ticks = 0; ticks <= HORIZON; ticks++) {
            if (spare.air.size == 0) {
                return ticks;
            }
            spare.passTick();
        }
        return NONE;
    }

    public int wholeIn() throws IllegalStateException {
        needRadio();
        if (radio.period == 0) {
            return NONE;
        }
        return radio.period - radio.time % radio.period;
    }

    // ---- what would be otherwise

    public int sameWithout(int l) throws IllegalStateException, IndexOutOfBoundsException {
        needRadio();
        needListener(l);
        spare.copyFrom(radio);
        spare.listener[l].gaps = 0;
        return spare.ticksUntilSame(l, HORIZON);
    }

    public int sameWith(int l, int period)
            throws IllegalStateException, IndexOutOfBoundsException, IllegalArgumentException {
        needRadio();
        needListener(l);
        needBetween(period, 0, MOST_PERIOD);
        spare.copyFrom(radio);
        spare.period = period;
        return spare.ticksUntilSame(l, HORIZON);
    }

    public int bestPeriod(int l) throws IllegalStateException, IndexOutOfBoundsException {
        needRadio();
        needListener(l);
        int best = MOST_PERIOD;
        // Only fewer ticks than the best so far can make a smaller period the better one.
        int limit = HORIZON;
        for (int period = MOST_PERIOD; period >= 1 && limit >= 0; period--) {
            spare.copyFrom(radio);
            spare.period = period;
            int ticks = spare.ticksUntilSame(l, limit);
            if (ticks != NONE) {
                best = period;
                limit = ticks - 1;
            }
        }
        return best;
    }

    // ---- floats

    public float sameShare() throws IllegalStateException {
        needRadio();
        int same = 0;
        for (int l = 0; l < radio.listeners; l++) {
            same += SLOTS - Integer.bitCount(radio.differing(l));
        }
        return (float) same / (float) (SLOTS * radio.listeners);
    }

    public double meanBehind() throws IllegalStateException {
        needRadio();
        int sum = 0;
        for (int l = 0; l < radio.listeners; l++) {
            sum += radio.numbersBehind(l);
        }
        return (double) sum / (double) radio.listeners;
    }

    // ---- texts

    public int writeDay(int l, int day)
            throws IllegalStateException, IndexOutOfBoundsException, IllegalArgumentException {
        needRadio();
        needList(l);
        needBetween(day, 0, DAYS - 1);
        merging.collect(radio.told, radio.listOf(l), day);
        text.clear();
        for (int i = 0; i < merging.size; i++) {
            if (i > 0) {
                text.put(' ');
            }
            text.putNumber(merging.place[i]);
            text.put('@');
            text.putNumber(merging.from[i]);
            text.put('-');
            text.putNumber(merging.to[i]);
        }
        if (merging.size == 0) {
            text.put('-');
        }
        return text.size;
    }

    public int writeMissing(int l) throws IllegalStateException, IndexOutOfBoundsException {
        needRadio();
        needListener(l);
        text.clear();
        int first = NONE;
        for (int n = 1; n <= LAST_NUMBER; n++) {
            if (radio.misses(l, n)) {
                if (first == NONE) {
                    first = n;
                }
                if (!radio.misses(l, n + 1)) {
                    text.putRun(first, n);
                    first = NONE;
                }
            }
        }
        if (text.size == 0) {
            text.put('*');
        }
        return text.size;
    }

    public int textByte(int i) throws IndexOutOfBoundsException {
        if (i < 0 || i >= text.size) {
            throw new IndexOutOfBoundsException("not so many bytes in the text");
        }
        return text.bytes[i];
    }

    // ---- changes

    public int correct(int k, int place, int day, int from, int to, int length)
            throws IllegalStateException, IndexOutOfBoundsException, IllegalArgumentException {
        needRadio();
        needSlot(k);
        needBetween(place, 0, PLACES - 1);
        needBetween(day, 0, DAYS - 1);
        needBetween(from, 0, LAST_MINUTE - 1);
        needBetween(to, from + 1, LAST_MINUTE);
        needBetween(length, 1, MOST_LENGTH);
        needNumberLeft();
        needRoomOnAir();
        history.keep(radio);
        radio.told.tellNext(k, radio.time);
        radio.told.setRow(radio.told.rowOf(k, radio.told.latest), place, day, from, to);
        return radio.publishLatest(length);
    }

    public int cancel(int k, int length)
            throws IllegalStateException, IndexOutOfBoundsException, IllegalArgumentException {
        needRadio();
        needSlot(k);
        needBetween(length, 1, MOST_LENGTH);
        needNumberLeft();
        needRoomOnAir();
        history.keep(radio);
        radio.told.tellNext(k, radio.time);
        radio.told.setFree(radio.told.rowOf(k, radio.told.latest));
        return radio.publishLatest(length);
    }

    public int repeat(int n, int length) throws IllegalStateException, IllegalArgumentException {
        needRadio();
        needCorrection(n);
        needBetween(length, 1, MOST_LENGTH);
        needRoomOnAir();
        history.keep(radio);
        radio.sendCorrection(n, length);
        return radio.told.slot[n];
    }

    public int whole(int length) throws IllegalStateException, IllegalArgumentException {
        needRadio();
        needBetween(length, 1, MOST_LENGTH);
        needRoomOnAir();
        history.keep(radio);
        radio.sendWhole(length);
        return radio.told.latest;
    }

    public int tick(int n) throws IllegalStateException, IllegalArgumentException {
        needRadio();
        needBetween(n, 1, MOST_TICKS);
        needBetween(radio.time + n, 0, LAST_TIME);
        history.keep(radio);
        radio.passTicks(n);
        return radio.sameListeners();
    }

    public int addGap(int l, int begin, int end)
            throws IllegalStateException, IndexOutOfBoundsException, IllegalArgumentException {
        needRadio();
        needListener(l);
        needBetween(begin, 0, LAST_TIME);
        needBetween(end, begin, LAST_TIME);
        if (radio.listener[l].gaps >= MOST_GAPS) {
            throw new IllegalArgumentException("the listener has its gaps");
        }
        history.keep(radio);
        radio.listener[l].putGap(begin, end);
        return radio.listener[l].gaps;
    }

    public int dropGap(int l, int i) throws IllegalStateException, IndexOutOfBoundsException {
        needRadio();
        needListener(l);
        if (i < 0 || i >= radio.listener[l].gaps) {
            throw new IndexOutOfBoundsException("no such gap");
        }
        history.keep(radio);
        radio.listener[l].removeGap(i);
        return radio.listener[l].gaps;
    }

    public int setDelay(int l, int delay)
            throws IllegalStateException, IndexOutOfBoundsException, IllegalArgumentException {
        needRadio();
        needListener(l);
        needBetween(delay, 0, MOST_DELAY);
        history.keep(radio);
        int before = radio.listener[l].delay;
        radio.listener[l].delay = delay;
        return before;
    }

    public int setPeriod(int period) throws IllegalStateException, IllegalArgumentException {
        needRadio();
        needBetween(period, 0, MOST_PERIOD);
        history.keep(radio);
        int before = radio.period;
        radio.period = period;
        return before;
    }

    public int fetch(int l) throws IllegalStateException, IndexOutOfBoundsException {
        needRadio();
        needListener(l);
        history.keep(radio);
        int differing = radio.differing(l);
        radio.listener[l].takeList(radio.published, radio.told.latest);
        return differing;
    }

    public int undo() throws IllegalStateException {
        if (history.size == 0) {
            throw new IllegalStateException("no change is left to undo");
        }
        history.takeBack(radio);
        return history.size;
    }

    public int undoable() {
        return history.size;
    }

    public int save(int slot) throws IllegalStateException, IndexOutOfBoundsException {
        needRadio();
        needSavingSlot(slot);
        saved[slot].copyFrom(radio);
        hasSaved[slot] = true;
        return radio.time;
    }

    public int restore(int slot) throws IndexOutOfBoundsException, IllegalStateException {
        needSavingSlot(slot);
        if (!hasSaved[slot]) {
            throw new IllegalStateException("nothing is saved there");
        }
        radio.copyFrom(saved[slot]);
        history.forget();
        return radio.time;
    }

    // ---- what calls ask for

    private void needRadio() {
        if (!loaded) {
            throw new IllegalStateException("no text was loaded");
        }
    }

    private void needListener(int l) {
        if (l < 0 || l >= radio.listeners) {
            throw new IndexOutOfBoundsException("no such listener");
        }
    }

    private void needList(int l) {
        if (l != NONE) {
            needListener(l);
        }
    }

    private void needSlot(int k) {
        if (k < 0 || k >= SLOTS) {
            throw new IndexOutOfBoundsException("no such slot");
        }
    }

    private void needSavingSlot(int slot) {
        if (slot < 0 || slot >= SAVES) {
            throw new IndexOutOfBoundsException("no such slot for saving");
        }
    }

    private void needBetween(int value, int least, int most) {
        if (value < least || value > most) {
            throw new IllegalArgumentException("out of range");
        }
    }

    private void needCorrection(int n) {
        if (n < 1 || n > radio.told.latest) {
            throw new IllegalArgumentException("no such correction");
        }
    }

    private void needNumberLeft() {
        if (radio.told.latest >= LAST_NUMBER) {
            throw new IllegalArgumentException("no number is left");
        }
    }

    private void needRoomOnAir() {
        if (radio.air.isFull()) {
            throw new IllegalArgumentException("no room on the air");
        }
    }

    /**
     * What the text told of each slot, and then each correction. A list needs to hold no more than
     * the version of each slot: the slot and its version lead to the row that tells it.
     */
    private static final class Told {
        final int[] place = new int[SLOTS + LAST_NUMBER];
        final int[] day = new int[SLOTS + LAST_NUMBER];
        final int[] from = new int[SLOTS + LAST_NUMBER];
        final int[] to = new int[SLOTS + LAST_NUMBER];
        final int[] slot = new int[LAST_NUMBER + 1];
        final int[] publishedAt = new int[LAST_NUMBER + 1];
        final int[] heardBy = new int[LAST_NUMBER + 1];
        int latest;

        void copyFrom(Told other) {
            latest = other.latest;
            System.arraycopy(other.place, 0, place, 0, SLOTS + latest);
            System.arraycopy(other.day, 0, day, 0, SLOTS + latest);
            System.arraycopy(other.from, 0, from, 0, SLOTS + latest);
            System.arraycopy(other.to, 0, to, 0, SLOTS + latest);
            System.arraycopy(other.slot, 0, slot, 0, 1 + latest);
            System.arraycopy(other.publishedAt, 0, publishedAt, 0, 1 + latest);
            System.arraycopy(other.heardBy, 0, heardBy, 0, 1 + latest);
        }

        void reset() {
            latest = 0;
            for (int k = 0; k < SLOTS; k++) {
                setFree(k);
            }
        }

        void setRow(int row, int newPlace, int newDay, int newFrom, int newTo) {
            place[row] = newPlace;
            day[row] = newDay;
            from[row] = newFrom;
            to[row] = newTo;
        }

        void setFree(int row) {
            setRow(row, NONE, NONE, NONE, NONE);
        }

        void tellNext(int k, int time) {
            latest++;
            slot[latest] = k;
            publishedAt[latest] = time;
            heardBy[latest] = 0;
        }

        int rowOf(int k, int version) {
            return version == 0 ? k : SLOTS - 1 + version;
        }

        int property(int row, int what) {
            switch (what) {
                case 0:
                    return place[row];
                case 1:
                    return day[row];
                case 2:
                    return from[row];
                default:
                    return to[row];
            }
        }

        boolean covers(int row, int onDay, int minute) {
            return day[row] == onDay && from[row] <= minute && minute < to[row];
        }

        boolean isAlike(int row, int other) {
            return place[row] == place[other] && day[row] == day[other]
                    && from[row] == from[other] && to[row] == to[other];
        }

        int stopsIn(int[] list) {
            int stops = 0;
            for (int k = 0; k < SLOTS; k++) {
                if (place[rowOf(k, list[k])] != NONE) {
                    stops++;
                }
            }
            return stops;
        }

        /** The slots in which two lists differ, as a bit set. */
        int differences(int[] list, int[] other) {
            int bits = 0;
            for (int k = 0; k < SLOTS; k++) {
                if (list[k] != other[k] && !isAlike(rowOf(k, list[k]), rowOf(k, other[k]))) {
                    bits |= 1 << k;
                }
            }
            return bits;
        }
    }

    /** Where the bookmobile stands by a list. */
    private static final class Week {
        static int placeAt(Told told, int[] list, int day, int minute) {
            for (int k = 0; k < SLOTS; k++) {
                int row = told.rowOf(k, list[k]);
                if (told.covers(row, day, minute)) {
                    return told.place[row];
                }
            }
            return NONE;
        }

        /** The next minute behind a minute at which a stop begins or ends, MINUTES if none does. */
        static int nextEdge(Told told, int[] list, int day, int minute) {
            int edge = MINUTES;
            for (int k = 0; k < SLOTS; k++) {
                int row = told.rowOf(k, list[k]);
                if (told.day[row] == day) {
                    if (told.from[row] > minute) {
                        edge = Math.min(edge, told.from[row]);
                    }
                    if (told.to[row] > minute) {
                        edge = Math.min(edge, told.to[row]);
                    }
                }
            }
            return edge;
        }

        static int minutesAt(Told told, int[] list, int place) {
            int sum = 0;
            for (int day = 0; day < DAYS; day++) {
                int minute = 0;
                for (int step = 0; step < MINUTES && minute < MINUTES; step++) {
                    int next = nextEdge(told, list, day, minute);
                    if (placeAt(told, list, day, minute) == place) {
                        sum += next - minute;
                    }
                    minute = next;
                }
            }
            return sum;
        }

        /** In how many minutes of the week the bookmobile stands elsewhere by another list. */
        static int minutesApart(Told told, int[] list, int[] other) {
            int sum = 0;
            for (int day = 0; day < DAYS; day++) {
                int minute = 0;
                for (int step = 0; step < MINUTES && minute < MINUTES; step++) {
                    int next = Math.min(nextEdge(told, list, day, minute),
                            nextEdge(told, other, day, minute));
                    if (placeAt(told, list, day, minute) != placeAt(told, other, day, minute)) {
                        sum += next - minute;
                    }
                    minute = next;
                }
            }
            return sum;
        }

        static int firstMinute(Told told, int[] list, int day, int minute) {
            int first = NONE;
            for (int k = 0; k < SLOTS; k++) {
                int row = told.rowOf(k, list[k]);
                if (told.day[row] == day && told.to[row] > minute) {
                    int begin = Math.max(told.from[row], minute);
                    if (first == NONE || begin < first) {
                        first = begin;
                    }
                }
            }
            return first;
        }

        static int clashing(Told told, int[] list) {
            int pairs = 0;
            for (int k = 0; k < SLOTS; k++) {
                for (int other = 0; other < k; other++) {
                    if (isClash(told, told.rowOf(k, list[k]), told.rowOf(other, list[other]))) {
                        pairs++;
                    }
                }
            }
            return pairs;
        }

        private static boolean isClash(Told told, int row, int other) {
            // Free slots have no place, so two of them do not differ in it.
            return told.place[row] != told.place[other] && told.day[row] == told.day[other]
                    && Math.max(told.from[row], told.from[other])
                    < Math.min(told.to[row], told.to[other]);
        }
    }

    /** The merged stops of the list and day that were collected last. */
    private static final class Merging {
        final int[] place = new int[SLOTS];
        final int[] from = new int[SLOTS];
        final int[] to = new int[SLOTS];
        final int[] parts = new int[SLOTS];
        int size;
        private final int[] rows = new int[SLOTS];
        private int rowsFound;

        void collect(Told told, int[] list, int day) {
            rowsFound = 0;
            for (int k = 0; k < SLOTS; k++) {
                int row = told.rowOf(k, list[k]);
                if (told.day[row] == day) {
                    insertRow(told, row);
                }
            }
            size = 0;
            for (int i = 0; i < rowsFound; i++) {
                join(told, rows[i]);
            }
        }

        private void insertRow(Told told, int row) {
            int at = rowsFound;
            while (at > 0 && isAhead(told, row, rows[at - 1])) {
                rows[at] = rows[at - 1];
                at--;
            }
            rows[at] = row;
            rowsFound++;
        }

        private boolean isAhead(Told told, int row, int other) {
            if (told.from[row] != told.from[other]) {
                return told.from[row] < told.from[other];
            }
            return told.place[row] < told.place[other];
        }

        /** Rows come in the order of FROM, so a row that touches none begins a stop behind all. */
        private void join(Told told, int row) {
            for (int i = 0; i < size; i++) {
                if (place[i] == told.place[row] && to[i] >= told.from[row]) {
                    to[i] = Math.max(to[i], told.to[row]);
                    parts[i]++;
                    return;
                }
            }
            place[size] = told.place[row];
            from[size] = told.from[row];
            to[size] = told.to[row];
            parts[size] = 1;
            size++;
        }

        int property(int i, int what) {
            switch (what) {
                case 0:
                    return place[i];
                case 1:
                    return from[i];
                case 2:
                    return to[i];
                default:
                    return parts[i];
            }
        }
    }

    /** A listener, with the versions of the slots of its list. */
    private static final class Listener {
        int delay;
        int gaps;
        final int[] gapBegin = new int[MOST_GAPS];
        final int[] gapEnd = new int[MOST_GAPS];
        final int[] list = new int[SLOTS];
        int base;
        int greatest;
        int dropped;
        int wholesHeard;
        int unheard;

        void copyFrom(Listener other) {
            delay = other.delay;
            gaps = other.gaps;
            System.arraycopy(other.gapBegin, 0, gapBegin, 0, MOST_GAPS);
            System.arraycopy(other.gapEnd, 0, gapEnd, 0, MOST_GAPS);
            System.arraycopy(other.list, 0, list, 0, SLOTS);
            base = other.base;
            greatest = other.greatest;
            dropped = other.dropped;
            wholesHeard = other.wholesHeard;
            unheard = other.unheard;
        }

        void reset() {
            delay = 0;
            gaps = 0;
            for (int k = 0; k < SLOTS; k++) {
                list[k] = 0;
            }
            base = 0;
            greatest = 0;
            dropped = 0;
            wholesHeard = 0;
            unheard = 0;
        }

        boolean isInGap(int time) {
            for (int i = 0; i < gaps; i++) {
                if (gapBegin[i] <= time && time <= gapEnd[i]) {
                    return true;
                }
            }
            return false;
        }

        void putGap(int begin, int end) {
            gapBegin[gaps] = begin;
            gapEnd[gaps] = end;
            gaps++;
        }

        void removeGap(int i) {
            gaps--;
            for (int behind = i; behind < gaps; behind++) {
                gapBegin[behind] = gapBegin[behind + 1];
                gapEnd[behind] = gapEnd[behind + 1];
            }
        }

        void hear(Signal signal) {
            greatest = Math.max(greatest, signal.number);
            if (signal.isWhole()) {
                base = Math.max(base, signal.number);
                wholesHeard++;
                for (int k = 0; k < SLOTS; k++) {
                    list[k] = Math.max(list[k], signal.versions[k]);
                }
            } else if (signal.number > list[signal.slot]) {
                list[signal.slot] = signal.number;
            } else {
                dropped++;
            }
        }

        void takeList(int[] versions, int latest) {
            System.arraycopy(versions, 0, list, 0, SLOTS);
            base = Math.max(base, latest);
        }
    }

    /** A correction or a whole list on the air; a whole list has no slot, but versions of all. */
    private static final class Signal {
        int number;
        int slot;
        int begun;
        int length;
        int firstDue;
        int lastDue;
        final int[] due = new int[MOST_LISTENERS];
        final int[] versions = new int[SLOTS];

        void copyFrom(Signal other) {
            number = other.number;
            slot = other.slot;
            begun = other.begun;
            length = other.length;
            firstDue = other.firstDue;
            lastDue = other.lastDue;
            System.arraycopy(other.due, 0, due, 0, MOST_LISTENERS);
            System.arraycopy(other.versions, 0, versions, 0, SLOTS);
        }

        boolean isWhole() {
            return slot == NONE;
        }

        void begin(int time, int newLength) {
            begun = time;
            length = newLength;
            firstDue = time + MOST_LENGTH + MOST_DELAY;
            lastDue = time;
        }

        void setDue(int l, int time) {
            due[l] = time;
            firstDue = Math.min(firstDue, time);
            lastDue = Math.max(lastDue, time);
        }

        int stillToHear(int listeners, int time) {
            int bits = 0;
            for (int l = 0; l < listeners; l++) {
                if (due[l] > time) {
                    bits |= 1 << l;
                }
            }
            return bits;
        }
    }

    /** What is on the air, always in the order in which it is heard at one time. */
    private static final class Air {
        final Signal[] signals = new Signal[ROOM_ON_AIR];
        int size;

        Air() {
            for (int i = 0; i < ROOM_ON_AIR; i++) {
                signals[i] = new Signal();
            }
        }

        void copyFrom(Air other) {
            size = other.size;
            for (int i = 0; i < size; i++) {
                signals[i].copyFrom(other.signals[i]);
            }
        }

        boolean isFull() {
            return size >= ROOM_ON_AIR;
        }

        /** Makes room for one more signal, behind all that are heard ahead of it, and gives it. */
        Signal insert(int number, int slot) {
            Signal fresh = signals[size];
            fresh.number = number;
            fresh.slot = slot;
            int at = size;
            while (at > 0 && isAhead(fresh, signals[at - 1])) {
                signals[at] = signals[at - 1];
                at--;
            }
            signals[at] = fresh;
            size++;
            return fresh;
        }

        private boolean isAhead(Signal fresh, Signal other) {
            if (fresh.number != other.number) {
                return fresh.number < other.number;
            }
            return !fresh.isWhole() && other.isWhole();
        }

        /** Signals that ended change places with others behind them, as all rows are used again. */
        void removeEnded(int time) {
            int kept = 0;
            for (int i = 0; i < size; i++) {
                Signal signal = signals[i];
                if (signal.lastDue > time) {
                    signals[i] = signals[kept];
                    signals[kept] = signal;
                    kept++;
                }
            }
            size = kept;
        }

        Signal byFirstDue(int index) {
            for (int i = 0; i < size; i++) {
                if (rankByFirstDue(i) == index) {
                    return signals[i];
                }
            }
            return signals[0];
        }

        private int rankByFirstDue(int i) {
            int rank = 0;
            for (int other = 0; other < size; other++) {
                int difference = signals[other].firstDue - signals[i].firstDue;
                if (difference < 0 || difference == 0 && other < i) {
                    rank++;
                }
            }
            return rank;
        }

        int wholeLists() {
            int wholes = 0;
            for (int i = 0; i < size; i++) {
                if (signals[i].isWhole()) {
                    wholes++;
                }
            }
            return wholes;
        }

        boolean hasCorrection(int number) {
            for (int i = 0; i < size; i++) {
                if (!signals[i].isWhole() && signals[i].number == number) {
                    return true;
                }
            }
            return false;
        }
    }

    /** All that is told of a radio: what a change changes, undo takes back and save saves. */
    private static final class Radio {
        final Told told = new Told();
        final int[] published = new int[SLOTS];
        final Air air = new Air();
        final Listener[] listener = new Listener[MOST_LISTENERS];
        int listeners;
        int period;
        int time;
        int wholesSent;
        int wholesLeftOut;

        Radio() {
            for (int l = 0; l < MOST_LISTENERS; l++) {
                listener[l] = new Listener();
            }
        }

        void copyFrom(Radio other) {
            told.copyFrom(other.told);
            System.arraycopy(other.published, 0, published, 0, SLOTS);
            air.copyFrom(other.air);
            listeners = other.listeners;
            for (int l = 0; l < listeners; l++) {
                listener[l].copyFrom(other.listener[l]);
            }
            period = other.period;
            time = other.time;
            wholesSent = other.wholesSent;
            wholesLeftOut = other.wholesLeftOut;
        }

        void reset() {
            told.reset();
            for (int k = 0; k < SLOTS; k++) {
                published[k] = 0;
            }
            air.size = 0;
            listeners = 0;
            period = 0;
            time = 0;
            wholesSent = 0;
            wholesLeftOut = 0;
        }

        int[] listOf(int l) {
            return l == NONE ? published : listener[l].list;
        }

        int publishLatest(int length) {
            published[told.slot[told.latest]] = told.latest;
            sendCorrection(told.latest, length);
            return told.latest;
        }

        void sendCorrection(int n, int length) {
            send(air.insert(n, told.slot[n]), length);
        }

        void sendWhole(int length) {
            Signal signal = air.insert(told.latest, NONE);
            System.arraycopy(published, 0, signal.versions, 0, SLOTS);
            send(signal, length);
            wholesSent++;
        }

        private void send(Signal signal, int length) {
            signal.begin(time, length);
            for (int l = 0; l < listeners; l++) {
                signal.setDue(l, time + length + listener[l].delay);
            }
        }

        void passTicks(int n) {
            for (int i = 0; i < n; i++) {
                passTick();
            }
        }

        void passTick() {
            time++;
            if (period != 0 && time % period == 0) {
                if (air.isFull()) {
                    wholesLeftOut++;
                } else {
                    sendWhole(OWN_LENGTH);
                }
            }
            for (int l = 0; l < listeners; l++) {
                hearWhatIsDue(l);
            }
            air.removeEnded(time);
        }

        private void hearWhatIsDue(int l) {
            for (int i = 0; i < air.size; i++) {
                Signal signal = air.signals[i];
                if (signal.due[l] == time) {
                    if (listener[l].isInGap(time)) {
                        listener[l].unheard++;
                    } else {
                        listener[l].hear(signal);
                        noteHeard(l, signal);
                    }
                }
            }
        }

        private void noteHeard(int l, Signal signal) {
            if (!signal.isWhole()) {
                told.heardBy[signal.number] |= 1 << l;
            }
        }

        boolean knows(int l, int n) {
            return n >= 1 && n <= told.latest && (told.heardBy[n] >> l & 1) == 1;
        }

        boolean misses(int l, int n) {
            return n > listener[l].base && n < listener[l].greatest && !knows(l, n);
        }

        int numbersHeard(int l) {
            int heard = 0;
            for (int n = 1; n <= told.latest; n++) {
                if (knows(l, n)) {
                    heard++;
                }
            }
            return heard;
        }

        int numbersMissed(int l) {
            int missed = 0;
            for (int n = 1; n <= told.latest; n++) {
                if (misses(l, n)) {
                    missed++;
                }
            }
            return missed;
        }

        int numbersBehind(int l) {
            return told.latest - listener[l].greatest;
        }

        int differing(int l) {
            return told.differences(published, listener[l].list);
        }

        boolean isPublished(int l) {
            return differing(l) == 0;
        }

        int minutesWrong(int l) {
            return Week.minutesApart(told, published, listener[l].list);
        }

        int sameListeners() {
            int same = 0;
            for (int l = 0; l < listeners; l++) {
                if (isPublished(l)) {
                    same++;
                }
            }
            return same;
        }

        int allDropped() {
            int sum = 0;
            for (int l = 0; l < listeners; l++) {
                sum += listener[l].dropped;
            }
            return sum;
        }

        int allUnheard() {
            int sum = 0;
            for (int l = 0; l < listeners; l++) {
                sum += listener[l].unheard;
            }
            return sum;
        }

        /** Lets ticks pass until a list is the published one; NONE if it is not up to the limit. */
        int ticksUntilSame(int l, int limit) {
            for (int ticks = 0; ticks <= limit; ticks++) {
                if (isPublished(l)) {
                    return ticks;
                }
                passTick();
            }
            return NONE;
        }
    }

    /** The radio as it was ahead of the latest changes; the oldest gives way to the newest. */
    private static final class History {
        private final Radio[] past = new Radio[MOST_UNDO];
        private int next;
        int size;

        History() {
            for (int i = 0; i < MOST_UNDO; i++) {
                past[i] = new Radio();
            }
        }

        void keep(Radio now) {
            past[next].copyFrom(now);
            next = next + 1 < MOST_UNDO ? next + 1 : 0;
            size = Math.min(size + 1, MOST_UNDO);
        }

        void takeBack(Radio now) {
            next = next > 0 ? next - 1 : MOST_UNDO - 1;
            size--;
            now.copyFrom(past[next]);
        }

        void forget() {
            size = 0;
        }
    }

    /** The input buffer, and the parser of the text in it. */
    private static final class Reader {
        private static final int END = 0;
        private static final int WORD = 1;
        private static final int NUMERAL = 2;
        private static final int SEMICOLON = 3;
        private static final int WRONG = 4;
        private static final int MOST_LETTERS = 6;
        private static final int MOST_DIGITS = 4;
        private static final int NOT_ALLOWED = 1;
        private static final int OUT_OF_BOUNDS = 2;
        private static final int TOO_MANY = 3;

        private final int[] bytes = new int[BUFFER];
        int size;
        int error;
        int errorAt = NONE;
        private int end;
        private int next;
        private int kind;
        private int start;
        private int value;
        private int taken;
        private int stops;

        boolean hasRoom() {
            return size + APPENDED <= BUFFER;
        }

        void takeIn(int word) {
            for (int shift = 24; shift >= 0; shift -= 8) {
                bytes[size] = word >> shift & 255;
                size++;
            }
        }

        /** Parses the first bytes and empties the buffer; returns false if there was an error. */
        boolean parse(int n, Radio target) {
            end = n;
            next = 0;
            size = 0;
            stops = 0;
            error = 0;
            errorAt = NONE;
            target.reset();
            advance();
            if (!takeWord("radio") || !takeNumber(0, MOST_PERIOD)) {
                return false;
            }
            target.period = taken;
            for (int line = 0; line < BUFFER && kind != END; line++) {
                if (!takeSemicolon()) {
                    return false;
                }
                boolean isRight = isWord("stop") ? parseStop(target) : parseListener(target);
                if (!isRight) {
                    return false;
                }
            }
            return target.listeners > 0 || fail(NOT_ALLOWED);
        }

        private boolean parseStop(Radio target) {
            if (stops >= SLOTS) {
                return fail(TOO_MANY);
            }
            advance();
            if (!takeNumber(0, PLACES - 1)) {
                return false;
            }
            int place = taken;
            if (!takeNumber(0, DAYS - 1)) {
                return false;
            }
            int day = taken;
            if (!takeNumber(0, LAST_MINUTE - 1)) {
                return false;
            }
            int from = taken;
            if (!takeNumber(from + 1, LAST_MINUTE)) {
                return false;
            }
            target.told.setRow(stops, place, day, from, taken);
            stops++;
            return true;
        }

        private boolean parseListener(Radio target) {
            if (!isWord("hears")) {
                return fail(NOT_ALLOWED);
            }
            if (target.listeners >= MOST_LISTENERS) {
                return fail(TOO_MANY);
            }
            Listener listener = target.listener[target.listeners];
            listener.reset();
            target.listeners++;
            advance();
            if (!takeNumber(0, MOST_DELAY)) {
                return false;
            }
            listener.delay = taken;
            for (int i = 0; i <= MOST_GAPS && isWord("off"); i++) {
                if (!parseGap(listener)) {
                    return false;
                }
            }
            return true;
        }

        private boolean parseGap(Listener listener) {
            if (listener.gaps >= MOST_GAPS) {
                return fail(TOO_MANY);
            }
            advance();
            if (!takeNumber(0, LAST_TIME)) {
                return false;
            }
            int begin = taken;
            if (!takeNumber(begin, LAST_TIME)) {
                return false;
            }
            listener.putGap(begin, taken);
            return true;
        }

        private boolean fail(int code) {
            error = code;
            errorAt = start;
            return false;
        }

        private boolean takeWord(String word) {
            if (!isWord(word)) {
                return fail(NOT_ALLOWED);
            }
            advance();
            return true;
        }

        private boolean takeSemicolon() {
            if (kind != SEMICOLON) {
                return fail(NOT_ALLOWED);
            }
            advance();
            return true;
        }

        private boolean takeNumber(int least, int most) {
            if (kind != NUMERAL) {
                return fail(NOT_ALLOWED);
            }
            if (value < least || value > most) {
                return fail(OUT_OF_BOUNDS);
            }
            taken = value;
            advance();
            return true;
        }

        private boolean isWord(String word) {
            if (kind != WORD || next - start != word.length()) {
                return false;
            }
            for (int i = 0; i < word.length(); i++) {
                if (bytes[start + i] != word.charAt(i)) {
                    return false;
                }
            }
            return true;
        }

        private void advance() {
            while (next < end && bytes[next] == ' ') {
                next++;
            }
            start = next;
            value = 0;
            if (next >= end) {
                kind = END;
            } else if (isLetter(bytes[next])) {
                while (next < end && isLetter(bytes[next])) {
                    next++;
                }
                kind = next - start <= MOST_LETTERS ? WORD : WRONG;
            } else if (isDigit(bytes[next])) {
                while (next < end && isDigit(bytes[next])) {
                    value = value * 10 + bytes[next] - '0';
                    next++;
                }
                kind = next - start <= MOST_DIGITS ? NUMERAL : WRONG;
            } else {
                kind = bytes[next] == ';' ? SEMICOLON : WRONG;
                next++;
            }
        }

        private static boolean isLetter(int sign) {
            return sign >= 'a' && sign <= 'z';
        }

        private static boolean isDigit(int sign) {
            return sign >= '0' && sign <= '9';
        }
    }

    /** The text that was written last. */
    private static final class Text {
        final int[] bytes = new int[TEXT_ROOM];
        int size;

        void clear() {
            size = 0;
        }

        void put(int sign) {
            if (size < TEXT_ROOM) {
                bytes[size] = sign;
                size++;
            }
        }

        /** Writes a number from 0 to 9999. */
        void putNumber(int number) {
            for (int unit = 1000; unit > 0; unit /= 10) {
                if (number >= unit || unit == 1) {
                    put('0' + number / unit % 10);
                }
            }
        }

        void putRun(int first, int last) {
            if (size > 0) {
                put(',');
            }
            putNumber(first);
            if (last > first) {
                put('-');
                putNumber(last);
            }
        }
    }
}
