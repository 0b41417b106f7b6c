import java.util.Arrays;

/** Elevator ropes that are inspected by counting broken threads; ../shared/DOC.md says what each call answers. */
public final class RopeThreads {
    public static final int NONE = -1;

    private static final int FLOORS = 8;
    private static final int SECTIONS_OF_FLOOR = 3;
    private static final int SECTIONS = 24;
    private static final int MOST_ROPES = 5;
    private static final int LEAST_ROPES_TO_RUN = 2;
    private static final int BEST_QUALITY = 99;
    private static final int MOST_TIMES = 99;
    private static final int MOST_TRIPS = 99999;
    private static final int MOST_MONTHS_AT_ONCE = 24;
    private static final int LAST_MONTH = 2000;
    private static final int MOST_SAVED = 6;
    private static final int FIRST_SIGN = 33;
    private static final int LAST_SIGN = 126;
    private static final int LONGEST_TEXT = 60;
    private static final int MOST_PARTS = 15;

    private static final int SETTINGS = 5;
    private static final int WINDOW_SIZE = 0;
    private static final int WINDOW_LIMIT = 1;
    private static final int ROPE_LIMIT = 2;
    private static final int GROWTH_LIMIT = 3;
    private static final int MONTHS_LIMIT = 4;
    private static final int[] LEAST_VALUES = {1, 1, 1, 1, 1};
    private static final int[] MOST_VALUES = {12, 99, 999, 99, 60};
    private static final int[] FIRST_VALUES = {4, 8, 20, 5, 3};

    private static final int ROPE_FIGURES = 10;
    private static final int SECTION_FIGURES = 5;
    private static final int WINDOW_FIGURES = 2;
    private static final int COUNT_FIGURES = 9;

    private static final long DIGEST_START = 2677L;
    private static final int DIGEST_INSPECTION = 5;
    private static final long EXPONENT_OF_ONE = 1023L;
    private static final int FRACTION_BITS = 52;
    private static final int MOST_HALVINGS = 32;

    private final Elevator now = new Elevator();
    private final History history = new History();
    private final TripText text = new TripText();

    // The copy of a rope on which "what would be" is tried, so that the rope itself stays as it is.
    private final Rope supposed = new Rope();

    public RopeThreads() {
    }

    // ---- ropes

    public int hang(int quality) throws IllegalArgumentException, IllegalStateException {
        requireRange(quality, 1, BEST_QUALITY);
        if (now.ropes >= MOST_ROPES) {
            throw new IllegalStateException("there are 5 ropes");
        }
        history.keep(now);
        now.addRope(quality);
        return now.ropes - 1;
    }

    public int cut(int rope) throws IndexOutOfBoundsException {
        existingRope(rope);
        history.keep(now);
        now.removeRope(rope);
        return now.ropes;
    }

    public int swap(int rope, int quality) throws IndexOutOfBoundsException, IllegalArgumentException {
        Rope old = existingRope(rope);
        requireRange(quality, 1, BEST_QUALITY);
        int broken = old.allBroken();
        history.keep(now);
        old.renew(quality, now.month);
        now.swaps++;
        return broken;
    }

    public int inspect(int rope, int from, int to) throws IndexOutOfBoundsException, IllegalArgumentException {
        Rope looked = existingRope(rope);
        requireSections(from, to);
        int before = looked.allCounts();
        history.keep(now);
        looked.lookAt(from, to, now.month);
        now.inspected += to - from + 1;
        return looked.allCounts() - before;
    }

    public int set(int setting, int value) throws IndexOutOfBoundsException, IllegalArgumentException {
        requireIndex(setting, SETTINGS);
        requireRange(value, LEAST_VALUES[setting], MOST_VALUES[setting]);
        int previous = now.settings[setting];
        history.keep(now);
        now.settings[setting] = value;
        return previous;
    }

    // ---- running

    public int trip(int from, int to, int times)
            throws IndexOutOfBoundsException, IllegalArgumentException, IllegalStateException {
        requireIndex(from, FLOORS);
        requireIndex(to, FLOORS);
        requireRange(times, 1, MOST_TIMES);
        requireTripsAllowed(times);
        history.keep(now);
        now.travel(from, to, times);
        return now.trips;
    }

    public int pass(int months) throws IllegalArgumentException, IllegalStateException {
        requireRange(months, 1, MOST_MONTHS_AT_ONCE);
        if (now.month + months > LAST_MONTH) {
            throw new IllegalStateException("the month would be above 2000");
        }
        history.keep(now);
        now.month += months;
        return now.ropesToRetire();
    }

    // ---- texts

    public int append(int code) throws IllegalArgumentException, IllegalStateException {
        requireRange(code, FIRST_SIGN, LAST_SIGN);
        if (text.length >= LONGEST_TEXT) {
            throw new IllegalStateException("the buffer is full");
        }
        text.addSign(code);
        return text.length;
    }

    public int clearBuffer() {
        int had = text.length;
        text.length = 0;
        return had;
    }

    public int firstError() {
        return text.errorPlace();
    }

    public int run() throws IllegalArgumentException, IllegalStateException {
        if (!text.readParts()) {
            throw new IllegalArgumentException("the buffer is not complete trips as a text");
        }
        requireTripsAllowed(text.tripsOfParts());
        history.keep(now);
        for (int i = 0; i < text.parts && i < MOST_PARTS; i++) {
            now.travel(text.froms[i], text.tos[i], text.times[i]);
        }
        text.length = 0;
        return now.trips;
    }

    public int undo() throws IllegalStateException {
        if (history.kept == 0) {
            throw new IllegalStateException("there is no saved state");
        }
        history.giveBack(now);
        return history.kept;
    }

    // ---- looks; nothing is changed

    public int rope(int rope, int what) throws IndexOutOfBoundsException, IllegalArgumentException {
        Rope looked = existingRope(rope);
        requireRange(what, 0, ROPE_FIGURES - 1);
        return ropeFigure(looked, what);
    }

    public int section(int rope, int section, int what) throws IndexOutOfBoundsException, IllegalArgumentException {
        Rope looked = existingRope(rope);
        requireIndex(section, SECTIONS);
        requireRange(what, 0, SECTION_FIGURES - 1);
        return looked.sectionFigure(section, what);
    }

    public int window(int rope, int window, int what) throws IndexOutOfBoundsException, IllegalArgumentException {
        Rope looked = existingRope(rope);
        requireIndex(window, now.windows());
        requireRange(what, 0, WINDOW_FIGURES - 1);
        return windowFigure(looked, window, what);
    }

    public int count(int what) throws IllegalArgumentException {
        requireRange(what, 0, COUNT_FIGURES - 1);
        return countFigure(what);
    }

    public int setting(int setting) throws IndexOutOfBoundsException {
        requireIndex(setting, SETTINGS);
        return now.settings[setting];
    }

    // ---- what would be; nothing is changed

    public int ifInspected(int rope, int from, int to) throws IndexOutOfBoundsException, IllegalArgumentException {
        Rope looked = existingRope(rope);
        requireSections(from, to);
        return reasonIfInspected(looked, from, to);
    }

    public int bestInspection(int rope, int many) throws IndexOutOfBoundsException, IllegalArgumentException {
        Rope looked = existingRope(rope);
        requireRange(many, 1, SECTIONS);
        return looked.mostUncounted(many);
    }

    public int tripsLeft(int rope) throws IndexOutOfBoundsException {
        return tripsToLimit(existingRope(rope));
    }

    public int unseen() {
        return lowestUnseen();
    }

    public double countedShare() {
        return shareCounted();
    }

    public long digest() {
        long hash = DIGEST_START;
        for (int what = 0; what < COUNT_FIGURES; what++) {
            hash = mixed(hash, countFigure(what));
        }
        for (int i = 0; i < SETTINGS; i++) {
            hash = mixed(hash, now.settings[i]);
        }
        for (int i = 0; i < now.ropes; i++) {
            Rope rope = now.ropeAt(i);
            if (rope != null) {
                hash = mixedWithRope(hash, rope);
            }
        }
        hash = mixed(hash, lowestUnseen());
        hash = mixed(hash, bitsOfShare(shareCounted()));
        hash = mixed(hash, text.length);
        for (int i = 0; i < text.length; i++) {
            hash = mixed(hash, text.signAt(i));
        }
        return hash;
    }

    // ---- what the calls require

    private Rope existingRope(int number) {
        Rope rope = now.ropeAt(number);
        if (rope == null) {
            throw new IndexOutOfBoundsException("there is no such rope");
        }
        return rope;
    }

    private static void requireIndex(int index, int end) {
        if (index < 0 || index >= end) {
            throw new IndexOutOfBoundsException("there is no such number");
        }
    }

    private static void requireRange(int value, int least, int most) {
        if (value < least || value > most) {
            throw new IllegalArgumentException("a value is out of range");
        }
    }

    private static void requireSections(int from, int to) {
        requireIndex(from, SECTIONS);
        requireIndex(to, SECTIONS);
        if (to < from) {
            throw new IllegalArgumentException("the last section is ahead of the first one");
        }
    }

    private void requireTripsAllowed(int more) {
        if (!now.canRun() || now.trips + more > MOST_TRIPS) {
            throw new IllegalStateException("the elevator cannot run, or there would be too many trips");
        }
    }

    // ---- figures

    private int ropeFigure(Rope rope, int what) {
        int size = now.settings[WINDOW_SIZE];
        switch (what) {
            case 0: return rope.quality;
            case 1: return rope.hungMonth;
            case 2: return rope.allCounts();
            case 3: return rope.allBroken();
            case 4: return rope.greatestCounts(size);
            case 5: return rope.windowOfGreatestCounts(size);
            case 6: return rope.greatestBroken(size);
            case 7: return now.reasonFor(rope);
            case 8: return now.monthsLeft(rope);
            default: return rope.trips;
        }
    }

    private int windowFigure(Rope rope, int window, int what) {
        int last = window + now.settings[WINDOW_SIZE] - 1;
        return what == 0 ? rope.sumOfCounts(window, last) : rope.sumOfBroken(window, last);
    }

    private int countFigure(int what) {
        switch (what) {
            case 0: return now.month;
            case 1: return now.ropes;
            case 2: return now.ropesToRetire();
            case 3: return now.canRun() ? 1 : 0;
            case 4: return now.trips;
            case 5: return now.inspected;
            case 6: return now.swaps;
            case 7: return now.brokenOfRopes() - now.countsOfRopes();
            default: return history.kept;
        }
    }

    private int reasonIfInspected(Rope rope, int from, int to) {
        supposed.copyFrom(rope);
        supposed.lookAt(from, to, now.month);
        return now.reasonFor(supposed);
    }

    private int tripsToLimit(Rope rope) {
        int low = 0;
        // After so many trips every section alone has as many broken threads as the limit of a window.
        int high = now.settings[WINDOW_LIMIT] * rope.quality;
        for (int step = 0; step < MOST_HALVINGS && low < high; step++) {
            int middle = (low + high) / 2;
            if (reachesLimit(rope, middle)) {
                high = middle;
            } else {
                low = middle + 1;
            }
        }
        return low;
    }

    private boolean reachesLimit(Rope rope, int more) {
        supposed.copyFrom(rope);
        supposed.bend(0, SECTIONS - 1, more);
        return supposed.greatestBroken(now.settings[WINDOW_SIZE]) >= now.settings[WINDOW_LIMIT];
    }

    private int lowestUnseen() {
        for (int i = 0; i < now.ropes; i++) {
            Rope rope = now.ropeAt(i);
            if (rope != null && now.reasonFor(rope) == 0) {
                int reason = reasonIfInspected(rope, 0, SECTIONS - 1);
                if (reason == 1 || reason == 2) {
                    return i;
                }
            }
        }
        return NONE;
    }

    private double shareCounted() {
        int broken = now.brokenOfRopes();
        if (broken == 0) {
            return 1.0;
        }
        return (double) now.countsOfRopes() / (double) broken;
    }

    // ---- hash

    private static long mixed(long hash, long value) {
        return 31L * hash + value;
    }

    private long mixedWithRope(long before, Rope rope) {
        long hash = before;
        for (int what = 0; what < ROPE_FIGURES; what++) {
            hash = mixed(hash, ropeFigure(rope, what));
        }
        for (int section = 0; section < SECTIONS; section++) {
            for (int what = 0; what < SECTION_FIGURES; what++) {
                hash = mixed(hash, rope.sectionFigure(section, what));
            }
        }
        for (int window = 0; window < now.windows(); window++) {
            hash = mixed(hash, windowFigure(rope, window, 0));
            hash = mixed(hash, windowFigure(rope, window, 1));
        }
        hash = mixed(hash, reasonIfInspected(rope, 0, SECTIONS - 1));
        hash = mixed(hash, rope.mostUncounted(DIGEST_INSPECTION));
        return mixed(hash, tripsToLimit(rope));
    }

    /** The bits of a share, 0.0 to 1.0, put together by hand: LANGUAGE.md leaves no Double.doubleToLongBits. */
    private static long bitsOfShare(double share) {
        if (share <= 0.0) {
            return 0L;
        }
        double scaled = share;
        long exponent = EXPONENT_OF_ONE;
        for (int i = 1; i < EXPONENT_OF_ONE && scaled < 1.0; i++) {
            scaled = scaled * 2.0;
            exponent--;
        }
        long fraction = (long) ((scaled - 1.0) * (double) (1L << FRACTION_BITS));
        return (exponent << FRACTION_BITS) + fraction;
    }

    /** One rope: how often its sections were bent, and what the inspections of them noted. */
    private static final class Rope {
        private final int[] bends = new int[SECTIONS];
        private final int[] counts = new int[SECTIONS];
        private final int[] countsAhead = new int[SECTIONS];
        private final int[] lookMonths = new int[SECTIONS];
        private int quality = 1;
        private int hungMonth = 0;
        private int trips = 0;

        void renew(int newQuality, int month) {
            Arrays.fill(bends, 0);
            Arrays.fill(counts, 0);
            Arrays.fill(countsAhead, 0);
            Arrays.fill(lookMonths, month);
            quality = newQuality;
            hungMonth = month;
            trips = 0;
        }

        void copyFrom(Rope other) {
            System.arraycopy(other.bends, 0, bends, 0, SECTIONS);
            System.arraycopy(other.counts, 0, counts, 0, SECTIONS);
            System.arraycopy(other.countsAhead, 0, countsAhead, 0, SECTIONS);
            System.arraycopy(other.lookMonths, 0, lookMonths, 0, SECTIONS);
            quality = other.quality;
            hungMonth = other.hungMonth;
            trips = other.trips;
        }

        void bend(int from, int to, int times) {
            for (int i = from; i >= 0 && i <= to && i < SECTIONS; i++) {
                bends[i] += times;
            }
            trips += times;
        }

        void lookAt(int from, int to, int month) {
            for (int i = from; i >= 0 && i <= to && i < SECTIONS; i++) {
                countsAhead[i] = counts[i];
                counts[i] = broken(i);
                lookMonths[i] = month;
            }
        }

        int broken(int index) {
            if (index < 0 || index >= SECTIONS || quality <= 0) {
                return 0;
            }
            return bends[index] / quality;
        }

        int sumOfCounts(int from, int to) {
            int sum = 0;
            for (int i = from; i >= 0 && i <= to && i < SECTIONS; i++) {
                sum += counts[i];
            }
            return sum;
        }

        int sumOfBroken(int from, int to) {
            int sum = 0;
            for (int i = from; i >= 0 && i <= to && i < SECTIONS; i++) {
                sum += broken(i);
            }
            return sum;
        }

        int allCounts() {
            return sumOfCounts(0, SECTIONS - 1);
        }

        int allBroken() {
            return sumOfBroken(0, SECTIONS - 1);
        }

        int greatestCounts(int size) {
            int greatest = 0;
            for (int first = 0; first + size <= SECTIONS; first++) {
                greatest = Math.max(greatest, sumOfCounts(first, first + size - 1));
            }
            return greatest;
        }

        int windowOfGreatestCounts(int size) {
            int greatest = greatestCounts(size);
            for (int first = 0; first + size <= SECTIONS; first++) {
                if (sumOfCounts(first, first + size - 1) == greatest) {
                    return first;
                }
            }
            return 0;
        }

        int greatestBroken(int size) {
            int greatest = 0;
            for (int first = 0; first + size <= SECTIONS; first++) {
                greatest = Math.max(greatest, sumOfBroken(first, first + size - 1));
            }
            return greatest;
        }

        int uncounted(int from, int to) {
            return sumOfBroken(from, to) - sumOfCounts(from, to);
        }

        /** The first of so many sections side by side that hide the most broken threads. */
        int mostUncounted(int many) {
            int best = 0;
            int greatest = uncounted(0, many - 1);
            for (int first = 1; first + many <= SECTIONS; first++) {
                int hidden = uncounted(first, first + many - 1);
                if (hidden > greatest) {
                    greatest = hidden;
                    best = first;
                }
            }
            return best;
        }

        int greatestGrowth() {
            int greatest = 0;
            for (int i = 0; i < SECTIONS; i++) {
                greatest = Math.max(greatest, counts[i] - countsAhead[i]);
            }
            return greatest;
        }

        int oldestLook() {
            int oldest = LAST_MONTH;
            for (int i = 0; i < SECTIONS; i++) {
                oldest = Math.min(oldest, lookMonths[i]);
            }
            return oldest;
        }

        int sectionFigure(int index, int what) {
            if (index < 0 || index >= SECTIONS) {
                return 0;
            }
            switch (what) {
                case 0: return bends[index];
                case 1: return broken(index);
                case 2: return counts[index];
                case 3: return countsAhead[index];
                default: return lookMonths[index];
            }
        }
    }

    /** All that is saved for undo: the month, the ropes, the settings, and what is counted so far. */
    private static final class Elevator {
        private final int[] settings = new int[SETTINGS];
        // Every place holds a rope at all times; the first ones, as many as ropes tells, are those that hang.
        private final Rope[] places = new Rope[MOST_ROPES];
        private int ropes = 0;
        private int month = 0;
        private int trips = 0;
        private int inspected = 0;
        private int swaps = 0;

        Elevator() {
            for (int i = 0; i < SETTINGS; i++) {
                settings[i] = FIRST_VALUES[i];
            }
            for (int i = 0; i < MOST_ROPES; i++) {
                places[i] = new Rope();
            }
        }

        void copyFrom(Elevator other) {
            System.arraycopy(other.settings, 0, settings, 0, SETTINGS);
            for (int i = 0; i < MOST_ROPES; i++) {
                Rope mine = places[i];
                Rope theirs = other.places[i];
                if (mine != null && theirs != null) {
                    mine.copyFrom(theirs);
                }
            }
            ropes = other.ropes;
            month = other.month;
            trips = other.trips;
            inspected = other.inspected;
            swaps = other.swaps;
        }

        /** The rope with this number, null if there is none. */
        Rope ropeAt(int number) {
            if (number < 0 || number >= ropes || number >= MOST_ROPES) {
                return null;
            }
            return places[number];
        }

        void addRope(int quality) {
            if (ropes < MOST_ROPES) {
                ropes++;
                Rope added = ropeAt(ropes - 1);
                if (added != null) {
                    added.renew(quality, month);
                }
            }
        }

        void removeRope(int number) {
            for (int i = number; i + 1 < ropes; i++) {
                Rope here = ropeAt(i);
                Rope behind = ropeAt(i + 1);
                if (here != null && behind != null) {
                    here.copyFrom(behind);
                }
            }
            ropes--;
        }

        void travel(int from, int to, int times) {
            int first = SECTIONS_OF_FLOOR * Math.min(from, to);
            int last = SECTIONS_OF_FLOOR * Math.max(from, to) + SECTIONS_OF_FLOOR - 1;
            for (int i = 0; i < ropes; i++) {
                Rope rope = ropeAt(i);
                if (rope != null) {
                    rope.bend(first, last, times);
                }
            }
            trips += times;
        }

        int windows() {
            return SECTIONS - settings[WINDOW_SIZE] + 1;
        }

        int reasonFor(Rope rope) {
            if (rope.greatestCounts(settings[WINDOW_SIZE]) >= settings[WINDOW_LIMIT]) {
                return 1;
            }
            if (rope.allCounts() >= settings[ROPE_LIMIT]) {
                return 2;
            }
            if (rope.greatestGrowth() >= settings[GROWTH_LIMIT]) {
                return 3;
            }
            return monthsLeft(rope) == 0 ? 4 : 0;
        }

        int monthsLeft(Rope rope) {
            return Math.max(0, rope.oldestLook() + settings[MONTHS_LIMIT] + 1 - month);
        }

        int ropesToRetire() {
            int many = 0;
            for (int i = 0; i < ropes; i++) {
                Rope rope = ropeAt(i);
                if (rope != null && reasonFor(rope) != 0) {
                    many++;
                }
            }
            return many;
        }

        boolean canRun() {
            return ropes >= LEAST_ROPES_TO_RUN && ropesToRetire() == 0;
        }

        int countsOfRopes() {
            int sum = 0;
            for (int i = 0; i < ropes; i++) {
                Rope rope = ropeAt(i);
                if (rope != null) {
                    sum += rope.allCounts();
                }
            }
            return sum;
        }

        int brokenOfRopes() {
            int sum = 0;
            for (int i = 0; i < ropes; i++) {
                Rope rope = ropeAt(i);
                if (rope != null) {
                    sum += rope.allBroken();
                }
            }
            return sum;
        }
    }

    /** The saved states, in a ring of places that are used again. */
    private static final class History {
        private final Elevator[] ring = new Elevator[MOST_SAVED];
        private int oldest = 0;
        private int kept = 0;

        History() {
            for (int i = 0; i < MOST_SAVED; i++) {
                ring[i] = new Elevator();
            }
        }

        void keep(Elevator state) {
            if (kept == MOST_SAVED) {
                oldest = Math.floorMod(oldest + 1, MOST_SAVED);
                kept--;
            }
            Elevator place = ring[Math.floorMod(oldest + kept, MOST_SAVED)];
            if (place != null) {
                place.copyFrom(state);
            }
            kept++;
        }

        void giveBack(Elevator state) {
            kept--;
            Elevator latest = ring[Math.floorMod(oldest + kept, MOST_SAVED)];
            if (latest != null) {
                state.copyFrom(latest);
            }
        }
    }

    /** The buffer, and the trips that are read from it. */
    private static final class TripText {
        // What the text is at: which sign may come next.
        private static final int ERROR = -1;
        private static final int AT_FROM = 0;
        private static final int AT_DASH = 1;
        private static final int AT_TO = 2;
        private static final int AFTER_TO = 3;
        private static final int AT_TIMES = 4;
        private static final int AFTER_ONE = 5;
        private static final int AFTER_DIGIT = 6;
        private static final int AFTER_TIMES = 7;

        private final int[] signs = new int[LONGEST_TEXT];
        private final int[] froms = new int[MOST_PARTS];
        private final int[] tos = new int[MOST_PARTS];
        private final int[] times = new int[MOST_PARTS];
        private int length = 0;
        private int parts = 0;

        void addSign(int code) {
            if (length >= 0 && length < LONGEST_TEXT) {
                signs[length] = code;
                length++;
            }
        }

        /** The sign at a place; behind the last one a ";", because it may follow exactly when a part is complete. */
        int signAt(int place) {
            return place >= 0 && place < length && place < LONGEST_TEXT ? signs[place] : ';';
        }

        int errorPlace() {
            int state = AT_FROM;
            for (int i = 0; i < length; i++) {
                state = stateAfter(state, signAt(i));
                if (state == ERROR) {
                    return i;
                }
            }
            return length;
        }

        /** Reads the buffer into parts; tells whether it is complete trips as a text. */
        boolean readParts() {
            parts = 0;
            int state = AT_FROM;
            for (int i = 0; i <= length; i++) {
                int code = signAt(i);
                int next = stateAfter(state, code);
                if (next == ERROR) {
                    return false;
                }
                readSign(state, code);
                state = next;
            }
            return true;
        }

        private void readSign(int state, int code) {
            if (parts < 0 || parts >= MOST_PARTS) {
                return;
            }
            if (code == ';') {
                // A part that tells no times is one trip.
                times[parts] = Math.max(times[parts], 1);
                parts++;
            } else if (state == AT_FROM) {
                froms[parts] = code - '0';
                times[parts] = 0;
            } else if (state == AT_TO) {
                tos[parts] = code - '0';
            } else if (state == AT_TIMES || state == AFTER_ONE || state == AFTER_DIGIT) {
                times[parts] = 10 * times[parts] + code - '0';
            }
        }

        int tripsOfParts() {
            int sum = 0;
            for (int i = 0; i < parts && i < MOST_PARTS; i++) {
                sum += times[i];
            }
            return sum;
        }

        private static int stateAfter(int state, int code) {
            switch (state) {
                case AT_FROM: return isFloor(code) ? AT_DASH : ERROR;
                case AT_DASH: return code == '-' ? AT_TO : ERROR;
                case AT_TO: return isFloor(code) ? AFTER_TO : ERROR;
                case AFTER_TO: return code == '*' ? AT_TIMES : stateAfterPart(code);
                case AT_TIMES: return stateAfterFirstDigit(code);
                case AFTER_ONE: return isDigit(code) ? AFTER_TIMES : ERROR;
                case AFTER_DIGIT: return isDigit(code) ? AFTER_TIMES : stateAfterPart(code);
                case AFTER_TIMES: return stateAfterPart(code);
                default: return ERROR;
            }
        }

        private static int stateAfterPart(int code) {
            return code == ';' ? AT_FROM : ERROR;
        }

        private static int stateAfterFirstDigit(int code) {
            if (code == '1') {
                return AFTER_ONE;
            }
            return code != '0' && isDigit(code) ? AFTER_DIGIT : ERROR;
        }

        private static boolean isFloor(int code) {
            return code >= '0' && code < '0' + FLOORS;
        }

        private static boolean isDigit(int code) {
            return code >= '0' && code <= '9';
        }
    }
}
