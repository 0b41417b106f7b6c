import java.util.ArrayDeque;
import java.util.ArrayList;
import java.util.Arrays;
import java.util.Deque;
import java.util.List;
import java.util.Random;
import java.util.regex.Pattern;

/** Compares runs of calls, the same ones every time, with a plain second model of ../shared/DOC.md. */
public final class ModelTests {
    private static final int RUNS = 400;
    private static final int CALLS = 512;

    private interface Call {
        long answer();
    }

    public static void main(String[] args) {
        for (int run = 0; run < RUNS; run++) {
            String fault = new Run(run).fault();
            if (fault != null) {
                System.out.println("run " + run + ": " + fault);
                System.exit(1);
            }
        }
        System.out.println(RUNS + " runs of " + CALLS + " calls are as the model has them");
    }

    /** One run of calls on a new object and on a new model. */
    private static final class Run {
        private final RopeThreads x = new RopeThreads();
        private final Model model = new Model();
        private final Random random;
        // Calm runs are those in which the elevator mostly can run; the ropes of worn ones have many broken threads.
        private final boolean calm;
        private final boolean worn;
        private final List<String> told = new ArrayList<>();

        Run(int seed) {
            random = new Random(seed);
            calm = seed % 3 != 0;
            worn = seed % 3 == 1;
        }

        String fault() {
            for (int i = 0; i < CALLS; i++) {
                String fault = oneCall(i);
                if (fault != null) {
                    int from = Math.max(0, told.size() - 12);
                    return "call " + i + ": " + fault + "\nbehind " + told.subList(from, told.size());
                }
            }
            return null;
        }

        private String oneCall(int i) {
            if (calm && i < 2) {
                return ropeCall(0, 0);
            }
            if (calm && i < 5) {
                int setting = 1 + i - 2;
                int value = setting == 2 ? 900 : 90;
                return compare("set(" + setting + ", " + value + ")", () -> x.set(setting, value),
                    () -> model.set(setting, value));
            }
            int kind = random.nextInt(100);
            if (kind < 30) {
                return changingCall(calm && kind == 0 ? 9 : kind % 10);
            }
            if (kind < 55) {
                return textCall(kind % 12);
            }
            if (kind < 95) {
                return look(kind % 11);
            }
            return compare("digest()", x::digest, model::digest);
        }

        private String changingCall(int kind) {
            int rope = any(0, Math.max(0, model.ropes.size() - 1));
            switch (kind) {
                case 0: case 1: return ropeCall(calm ? any(0, 3) : any(0, 2), rope);
                case 2: case 3: {
                    int from = any(0, 23);
                    int to = random.nextInt(8) == 0 ? any(0, 23) : Math.min(23, from + random.nextInt(10));
                    return compare("inspect(" + rope + ", " + from + ", " + to + ")", () -> x.inspect(rope, from, to),
                        () -> model.inspect(rope, from, to));
                }
                case 4: {
                    int setting = calm && random.nextInt(3) > 0 ? 0 : any(0, 4);
                    int value = any(1, new int[] {12, 99, 999, 99, 60}[Math.floorMod(setting, 5)]);
                    return compare("set(" + setting + ", " + value + ")", () -> x.set(setting, value),
                        () -> model.set(setting, value));
                }
                case 5: {
                    int months = calm ? 1 : any(1, 24);
                    return compare("pass(" + months + ")", () -> x.pass(months), () -> model.pass(months));
                }
                case 6: return compare("undo()", x::undo, model::undo);
                default: {
                    int from = any(0, 7);
                    int to = any(0, 7);
                    int times = calm ? any(1, 20) : any(1, 99);
                    return compare("trip(" + from + ", " + to + ", " + times + ")", () -> x.trip(from, to, times),
                        () -> model.trip(from, to, times));
                }
            }
        }

        private String ropeCall(int kind, int rope) {
            int quality = calm && random.nextInt(4) > 0 ? any(worn ? 4 : 20, worn ? 12 : 99) : any(1, 99);
            if (kind == 0) {
                return compare("hang(" + quality + ")", () -> x.hang(quality), () -> model.hang(quality));
            }
            if (kind == 1 && (!calm || random.nextInt(4) == 0)) {
                return compare("cut(" + rope + ")", () -> x.cut(rope), () -> model.cut(rope));
            }
            return compare("swap(" + rope + ", " + quality + ")", () -> x.swap(rope, quality),
                () -> model.swap(rope, quality));
        }

        private String textCall(int kind) {
            if (kind == 0 && random.nextInt(3) == 0) {
                return compare("clearBuffer()", x::clearBuffer, model::clearBuffer);
            }
            if (kind == 1) {
                return compare("run()", x::run, model::run);
            }
            if (kind <= 3) {
                return compare("firstError()", x::firstError, model::firstError);
            }
            int code = nextSign();
            return compare("append(" + code + ")", () -> x.append(code), () -> model.append(code));
        }

        /** Mostly a sign that goes on with the text. */
        private int nextSign() {
            if (random.nextInt(30) == 0) {
                return any(30, 130);
            }
            String signs = "0123456789-*;";
            for (int i = 0; i < 40 && random.nextInt(40) > 0; i++) {
                char sign = signs.charAt(random.nextInt(signs.length()));
                if (model.begins(model.buffer.toString() + sign)) {
                    return sign;
                }
            }
            return signs.charAt(random.nextInt(signs.length()));
        }

        private String look(int kind) {
            int rope = any(0, Math.max(0, model.ropes.size() - 1));
            int section = any(0, 23);
            int many = any(1, 24);
            int what = any(0, 9);
            switch (kind) {
                case 0: case 1:
                    return compare("rope(" + rope + ", " + what + ")", () -> x.rope(rope, what),
                        () -> model.rope(rope, what));
                case 2: {
                    int which = any(0, 4);
                    return compare("section(" + rope + ", " + section + ", " + which + ")",
                        () -> x.section(rope, section, which), () -> model.section(rope, section, which));
                }
                case 3: {
                    int which = any(0, 1);
                    return compare("window(" + rope + ", " + section + ", " + which + ")",
                        () -> x.window(rope, section, which), () -> model.window(rope, section, which));
                }
                case 4: return compare("count(" + what + ")", () -> x.count(what), () -> model.count(what));
                case 5: {
                    int setting = any(0, 4);
                    return compare("setting(" + setting + ")", () -> x.setting(setting), () -> model.setting(setting));
                }
                case 6: {
                    int to = Math.min(23, section + random.nextInt(24));
                    return compare("ifInspected(" + rope + ", " + section + ", " + to + ")",
                        () -> x.ifInspected(rope, section, to), () -> model.ifInspected(rope, section, to));
                }
                case 7:
                    return compare("bestInspection(" + rope + ", " + many + ")", () -> x.bestInspection(rope, many),
                        () -> model.bestInspection(rope, many));
                case 8: return compare("tripsLeft(" + rope + ")", () -> x.tripsLeft(rope), () -> model.tripsLeft(rope));
                case 9: return compare("unseen()", x::unseen, model::unseen);
                default:
                    return compare("countedShare()", () -> Double.doubleToLongBits(x.countedShare()),
                        () -> Double.doubleToLongBits(model.countedShare()));
            }
        }

        /** Mostly a number from least to most, at times one that is next to it or far away. */
        private int any(int least, int most) {
            switch (random.nextInt(60)) {
                case 0: return least - 1;
                case 1: return most + 1;
                case 2: return random.nextInt();
                case 3: return least;
                case 4: return most;
                default: return least + random.nextInt(most - least + 1);
            }
        }

        private String compare(String call, Call real, Call due) {
            told.add(call);
            String got = answerOf(real);
            String want = answerOf(due);
            if (!got.equals(want)) {
                return call + " answered " + got + ", due is " + want;
            }
            if (want.startsWith("throws") && x.digest() != model.digest()) {
                return call + " threw and changed something";
            }
            return null;
        }

        private static String answerOf(Call call) {
            try {
                return Long.toString(call.answer());
            } catch (RuntimeException e) {
                return "throws " + e.getClass().getSimpleName();
            }
        }
    }

    private static final class ModelRope {
        private int quality;
        private int hung;
        private int trips;
        private int[] bends = new int[24];
        // For each section the counts of all its inspections, the latest one first, and two zeros behind them.
        private int[][] counts = new int[24][];
        private int[] months = new int[24];

        ModelRope(int quality, int month) {
            this.quality = quality;
            hung = month;
            Arrays.fill(months, month);
            Arrays.fill(counts, new int[2]);
        }

        ModelRope copy() {
            ModelRope copy = new ModelRope(quality, hung);
            copy.trips = trips;
            copy.bends = bends.clone();
            copy.counts = counts.clone();
            copy.months = months.clone();
            return copy;
        }

        void inspect(int from, int to, int month) {
            for (int i = from; i <= to; i++) {
                int[] more = new int[counts[i].length + 1];
                System.arraycopy(counts[i], 0, more, 1, counts[i].length);
                more[0] = bends[i] / quality;
                counts[i] = more;
                months[i] = month;
            }
        }

        int sum(int from, int size, boolean trueOnes) {
            int sum = 0;
            for (int i = from; i < from + size; i++) {
                sum += trueOnes ? bends[i] / quality : counts[i][0];
            }
            return sum;
        }

        int greatest(int size, boolean trueOnes) {
            int greatest = 0;
            for (int i = 24 - size; i >= 0; i--) {
                greatest = Math.max(greatest, sum(i, size, trueOnes));
            }
            return greatest;
        }
    }

    private static final class ModelState {
        private List<ModelRope> ropes;
        private int[] settings;
        private int[] numbers;
    }

    /** The document in the plainest form; speed and room do not matter here. */
    private static final class Model {
        private static final int MONTH = 0;
        private static final int TRIPS = 1;
        private static final int INSPECTED = 2;
        private static final int SWAPS = 3;
        private static final Pattern TRIPS_AS_TEXT =
            Pattern.compile("[0-7]-[0-7](\\*([2-9]|[1-9][0-9]))?(;[0-7]-[0-7](\\*([2-9]|[1-9][0-9]))?)*");

        private List<ModelRope> ropes = new ArrayList<>();
        private int[] settings = {4, 8, 20, 5, 3};
        private int[] numbers = new int[4];
        private final StringBuilder buffer = new StringBuilder();
        private final Deque<ModelState> saved = new ArrayDeque<>();

        private void save() {
            ModelState state = new ModelState();
            state.ropes = new ArrayList<>();
            for (ModelRope rope : ropes) {
                state.ropes.add(rope.copy());
            }
            state.settings = settings.clone();
            state.numbers = numbers.clone();
            saved.addLast(state);
            if (saved.size() > 6) {
                saved.removeFirst();
            }
        }

        private void index(int value, int end) {
            if (value < 0 || value >= end) {
                throw new IndexOutOfBoundsException();
            }
        }

        private void range(int value, int least, int most) {
            if (value < least || value > most) {
                throw new IllegalArgumentException();
            }
        }

        private void state(boolean good) {
            if (!good) {
                throw new IllegalStateException();
            }
        }

        long hang(int quality) {
            range(quality, 1, 99);
            state(ropes.size() < 5);
            save();
            ropes.add(new ModelRope(quality, numbers[MONTH]));
            return ropes.size() - 1;
        }

        long cut(int rope) {
            index(rope, ropes.size());
            save();
            ropes.remove(rope);
            return ropes.size();
        }

        long swap(int rope, int quality) {
            index(rope, ropes.size());
            range(quality, 1, 99);
            save();
            numbers[SWAPS]++;
            return ropes.set(rope, new ModelRope(quality, numbers[MONTH])).sum(0, 24, true);
        }

        long inspect(int rope, int from, int to) {
            index(rope, ropes.size());
            index(from, 24);
            index(to, 24);
            range(to, from, 23);
            save();
            int before = ropes.get(rope).sum(0, 24, false);
            ropes.get(rope).inspect(from, to, numbers[MONTH]);
            numbers[INSPECTED] += to - from + 1;
            return ropes.get(rope).sum(0, 24, false) - before;
        }

        long set(int setting, int value) {
            index(setting, 5);
            range(value, 1, setting == 0 ? 12 : setting == 2 ? 999 : setting == 4 ? 60 : 99);
            save();
            int previous = settings[setting];
            settings[setting] = value;
            return previous;
        }

        private void mayTravel(int more) {
            state(count(3) == 1);
            state(numbers[TRIPS] + more <= 99999);
        }

        private void travel(int from, int to, int times) {
            for (ModelRope rope : ropes) {
                for (int section = 0; section < 24; section++) {
                    int floor = section / 3;
                    if (floor >= from && floor <= to || floor >= to && floor <= from) {
                        rope.bends[section] += times;
                    }
                }
                rope.trips += times;
            }
            numbers[TRIPS] += times;
        }

        long trip(int from, int to, int times) {
            index(from, 8);
            index(to, 8);
            range(times, 1, 99);
            mayTravel(times);
            save();
            travel(from, to, times);
            return numbers[TRIPS];
        }

        long pass(int months) {
            range(months, 1, 24);
            state(numbers[MONTH] + months <= 2000);
            save();
            numbers[MONTH] += months;
            return count(2);
        }

        long append(int code) {
            range(code, 33, 126);
            state(buffer.length() < 60);
            buffer.append((char) code);
            return buffer.length();
        }

        long clearBuffer() {
            int length = buffer.length();
            buffer.setLength(0);
            return length;
        }

        private boolean begins(String text) {
            for (String rest : new String[] {"", "0-0", "-0", "0", "2"}) {
                if (TRIPS_AS_TEXT.matcher(text + rest).matches()) {
                    return true;
                }
            }
            return false;
        }

        long firstError() {
            int place = 0;
            while (place < buffer.length() && begins(buffer.substring(0, place + 1))) {
                place++;
            }
            return place;
        }

        long run() {
            String text = buffer.toString();
            if (!TRIPS_AS_TEXT.matcher(text).matches()) {
                throw new IllegalArgumentException();
            }
            String[] parts = text.split(";");
            int more = 0;
            for (String part : parts) {
                more += part.length() > 3 ? Integer.parseInt(part.substring(4)) : 1;
            }
            mayTravel(more);
            save();
            for (String part : parts) {
                int times = part.length() > 3 ? Integer.parseInt(part.substring(4)) : 1;
                travel(part.charAt(0) - '0', part.charAt(2) - '0', times);
            }
            buffer.setLength(0);
            return numbers[TRIPS];
        }

        long undo() {
            state(!saved.isEmpty());
            ModelState state = saved.removeLast();
            ropes = state.ropes;
            settings = state.settings;
            numbers = state.numbers;
            return saved.size();
        }

        private int reason(ModelRope rope) {
            for (int window = 0; window + settings[0] <= 24; window++) {
                if (rope.sum(window, settings[0], false) >= settings[1]) {
                    return 1;
                }
            }
            if (rope.sum(0, 24, false) >= settings[2]) {
                return 2;
            }
            for (int[] counts : rope.counts) {
                if (counts[0] - counts[1] >= settings[3]) {
                    return 3;
                }
            }
            for (int month : rope.months) {
                if (numbers[MONTH] > month + settings[4]) {
                    return 4;
                }
            }
            return 0;
        }

        long rope(int number, int what) {
            index(number, ropes.size());
            range(what, 0, 9);
            ModelRope rope = ropes.get(number);
            switch (what) {
                case 0: return rope.quality;
                case 1: return rope.hung;
                case 2: return rope.sum(0, 24, false);
                case 3: return rope.sum(0, 24, true);
                case 4: return rope.greatest(settings[0], false);
                case 5: {
                    int window = 0;
                    while (rope.sum(window, settings[0], false) < rope.greatest(settings[0], false)) {
                        window++;
                    }
                    return window;
                }
                case 6: return rope.greatest(settings[0], true);
                case 7: return reason(rope);
                case 8: {
                    int oldest = Arrays.stream(rope.months).min().getAsInt();
                    int months = 0;
                    while (numbers[MONTH] + months <= oldest + settings[4]) {
                        months++;
                    }
                    return months;
                }
                default: return rope.trips;
            }
        }

        long section(int number, int section, int what) {
            index(number, ropes.size());
            index(section, 24);
            range(what, 0, 4);
            ModelRope rope = ropes.get(number);
            return new int[] {rope.bends[section], rope.bends[section] / rope.quality, rope.counts[section][0],
                rope.counts[section][1], rope.months[section]}[what];
        }

        long window(int number, int window, int what) {
            index(number, ropes.size());
            index(window, 25 - settings[0]);
            range(what, 0, 1);
            return ropes.get(number).sum(window, settings[0], what == 1);
        }

        long count(int what) {
            range(what, 0, 8);
            long retired = ropes.stream().filter(rope -> reason(rope) != 0).count();
            switch (what) {
                case 0: return numbers[MONTH];
                case 1: return ropes.size();
                case 2: return retired;
                case 3: return ropes.size() >= 2 && retired == 0 ? 1 : 0;
                case 4: return numbers[TRIPS];
                case 5: return numbers[INSPECTED];
                case 6: return numbers[SWAPS];
                case 7: return ropes.stream().mapToInt(rope -> rope.sum(0, 24, true) - rope.sum(0, 24, false)).sum();
                default: return saved.size();
            }
        }

        long setting(int setting) {
            index(setting, 5);
            return settings[setting];
        }

        long ifInspected(int number, int from, int to) {
            index(number, ropes.size());
            index(from, 24);
            index(to, 24);
            range(to, from, 23);
            ModelRope copy = ropes.get(number).copy();
            copy.inspect(from, to, numbers[MONTH]);
            return reason(copy);
        }

        long bestInspection(int number, int many) {
            index(number, ropes.size());
            range(many, 1, 24);
            int best = -1;
            int greatest = -1;
            for (int first = 0; first + many <= 24; first++) {
                ModelRope copy = ropes.get(number).copy();
                copy.inspect(first, first + many - 1, numbers[MONTH]);
                if (copy.sum(0, 24, false) > greatest) {
                    greatest = copy.sum(0, 24, false);
                    best = first;
                }
            }
            return best;
        }

        long tripsLeft(int number) {
            index(number, ropes.size());
            ModelRope copy = ropes.get(number).copy();
            long trips = 0;
            while (copy.greatest(settings[0], true) < settings[1]) {
                trips++;
                for (int i = 0; i < 24; i++) {
                    copy.bends[i]++;
                }
            }
            return trips;
        }

        long unseen() {
            for (int i = 0; i < ropes.size(); i++) {
                long then = ifInspected(i, 0, 23);
                if (reason(ropes.get(i)) == 0 && then >= 1 && then <= 2) {
                    return i;
                }
            }
            return -1;
        }

        double countedShare() {
            long counted = 0;
            long broken = 0;
            for (ModelRope rope : ropes) {
                counted += rope.sum(0, 24, false);
                broken += rope.sum(0, 24, true);
            }
            return broken == 0 ? 1.0 : (double) counted / broken;
        }

        long digest() {
            List<Long> values = new ArrayList<>();
            for (int what = 0; what <= 8; what++) {
                values.add(count(what));
            }
            for (int setting : settings) {
                values.add((long) setting);
            }
            for (int rope = 0; rope < ropes.size(); rope++) {
                for (int what = 0; what <= 9; what++) {
                    values.add(rope(rope, what));
                }
                for (int section = 0; section < 24; section++) {
                    for (int what = 0; what <= 4; what++) {
                        values.add(section(rope, section, what));
                    }
                }
                for (int window = 0; window + settings[0] <= 24; window++) {
                    values.add(window(rope, window, 0));
                    values.add(window(rope, window, 1));
                }
                values.add(ifInspected(rope, 0, 23));
                values.add(bestInspection(rope, 5));
                values.add(tripsLeft(rope));
            }
            values.add(unseen());
            values.add(Double.doubleToLongBits(countedShare()));
            values.add((long) buffer.length());
            buffer.chars().forEach(code -> values.add((long) code));
            long hash = 2677;
            for (long value : values) {
                hash = 31 * hash + value;
            }
            return hash;
        }
    }
}
