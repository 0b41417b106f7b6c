import java.math.BigInteger;
import java.util.ArrayList;
import java.util.List;

/** What the tests are made of: a test class is a kind of this one, says what is due, and ends with finish. */
abstract class Checks {
    static final Class<IndexOutOfBoundsException> INDEX = IndexOutOfBoundsException.class;
    static final Class<IllegalArgumentException> ARGUMENT = IllegalArgumentException.class;
    static final Class<IllegalStateException> STATE = IllegalStateException.class;

    private static String promise = "";
    private static int wrong = 0;

    interface Call {
        long answer();
    }

    interface CallWith {
        long answer(int value);
    }

    interface CallOf {
        long answer(RopeThreads x);
    }

    interface Step {
        void on(RopeThreads x);
    }

    static void about(String text) {
        promise = text;
    }

    static void finish(String good) {
        System.out.println(wrong == 0 ? good : wrong + " answers are not as due");
        if (wrong != 0) {
            System.exit(1);
        }
    }

    static void due(String call, long got, long want) {
        if (got != want) {
            fault(call + " answered " + got + ", due is " + want);
        }
    }

    static void fault(String text) {
        wrong++;
        System.out.println(promise + ": " + text);
    }

    private static void dueThrown(String call, Class<? extends RuntimeException> want, Call it) {
        String got = "nothing";
        try {
            it.answer();
        } catch (RuntimeException e) {
            got = e.getClass().getName();
        }
        if (!got.equals(want.getName())) {
            fault(call + " threw " + got + ", due is " + want.getName());
        }
    }

    /** The call throws just this exception, and changes nothing. */
    static void refused(RopeThreads x, String call, Class<? extends RuntimeException> want, Call it) {
        long before = x.digest();
        dueThrown(call, want, it);
        due("digest after " + call + " was refused", x.digest(), before);
    }

    /** The call is refused with the numbers next to the range, and with the least and the greatest one there is. */
    static void refusedBeyond(RopeThreads x, Class<? extends RuntimeException> want, int least, int most,
            String call, CallWith it) {
        for (int value : new int[] {least - 1, most + 1, Integer.MIN_VALUE, Integer.MAX_VALUE}) {
            refused(x, call + " with " + value, want, () -> it.answer(value));
        }
    }

    /** The step throws just this exception on an object made this way, and changes nothing of it at all. */
    static void refusedWhole(Step made, String call, Class<? extends RuntimeException> want, CallOf it) {
        RopeThreads x = new RopeThreads();
        RopeThreads untouched = new RopeThreads();
        made.on(x);
        made.on(untouched);
        dueThrown(call, want, () -> it.answer(x));
        dueSame(call, x, untouched);
    }

    /** Both objects hold the same now and in every saved state; none is left of these behind it. */
    static void dueSame(String call, RopeThreads x, RopeThreads untouched) {
        due("digest behind " + call, x.digest(), untouched.digest());
        due("firstError() behind " + call, x.firstError(), untouched.firstError());
        int saved = Math.min(x.count(8), untouched.count(8));
        for (int left = saved - 1; left >= 0; left--) {
            due("undo() behind " + call, x.undo(), untouched.undo());
            due("digest behind " + call + " and undo() to " + left, x.digest(), untouched.digest());
        }
    }

    /** The call changes nothing. */
    static void quiet(RopeThreads x, String call, long want, Call it) {
        long before = x.digest();
        due(call, it.answer(), want);
        due("digest after " + call, x.digest(), before);
    }

    /** The call saves one state, and undo brings the one from before it back. */
    static void dueUndone(RopeThreads x, String name, Call call) {
        long before = x.digest();
        int saved = x.count(8);
        call.answer();
        due("saved states after " + name, x.count(8), saved + 1);
        due("undo() of " + name, x.undo(), saved);
        due("digest after undo() of " + name, x.digest(), before);
    }

    static RopeThreads withRopes(int... qualities) {
        RopeThreads x = new RopeThreads();
        for (int quality : qualities) {
            x.hang(quality);
        }
        return x;
    }

    /** No rule retires a rope soon. */
    static RopeThreads loose(int... qualities) {
        RopeThreads x = withRopes(qualities);
        x.set(1, 99);
        x.set(2, 999);
        x.set(3, 99);
        x.set(4, 60);
        return x;
    }

    /** Leaves the elevator with five saved states at most: one more call and its undo bring count(8) back. */
    static void leaveRoom(RopeThreads x) {
        x.set(0, x.setting(0));
        x.undo();
    }

    /** Trips between the same two floors, more than one call may make. */
    static void trips(RopeThreads x, int from, int to, int many) {
        for (int left = many; left > 0; left -= 99) {
            x.trip(from, to, Math.min(left, 99));
        }
    }

    static void months(RopeThreads x, int many) {
        for (int left = many; left > 0; left -= 24) {
            x.pass(Math.min(left, 24));
        }
    }

    static void type(RopeThreads x, String text) {
        x.clearBuffer();
        for (int i = 0; i < text.length(); i++) {
            x.append(text.charAt(i));
        }
    }

    static String repeated(String part, int times) {
        StringBuilder text = new StringBuilder();
        for (int i = 0; i < times; i++) {
            text.append(part);
        }
        return text.toString();
    }

    /** The digest as the document has it, of what the looks tell and of the characters that the buffer is to hold. */
    static void dueDigest(RopeThreads x, String buffer) {
        long want = hashOf(valuesOf(x, buffer));
        due("digest()", x.digest(), want);
        due("digest() again", x.digest(), want);
    }

    /** Reckoned without overflow, and cut down to the last 64 bits at the end. */
    static long hashOf(List<Long> values) {
        BigInteger hash = BigInteger.valueOf(2677);
        for (long value : values) {
            hash = hash.multiply(BigInteger.valueOf(31)).add(BigInteger.valueOf(value));
        }
        return hash.longValue();
    }

    static List<Long> valuesOf(RopeThreads x, String buffer) {
        List<Long> values = new ArrayList<>();
        for (int what = 0; what <= 8; what++) {
            values.add((long) x.count(what));
        }
        for (int setting = 0; setting <= 4; setting++) {
            values.add((long) x.setting(setting));
        }
        for (int rope = 0; rope < x.count(1); rope++) {
            addValuesOfRope(values, x, rope);
        }
        values.add((long) x.unseen());
        values.add(Double.doubleToLongBits(x.countedShare()));
        values.add((long) buffer.length());
        for (int i = 0; i < buffer.length(); i++) {
            values.add((long) buffer.charAt(i));
        }
        return values;
    }

    private static void addValuesOfRope(List<Long> values, RopeThreads x, int rope) {
        for (int what = 0; what <= 9; what++) {
            values.add((long) x.rope(rope, what));
        }
        for (int section = 0; section <= 23; section++) {
            for (int what = 0; what <= 4; what++) {
                values.add((long) x.section(rope, section, what));
            }
        }
        for (int window = 0; window + x.setting(0) <= 24; window++) {
            values.add((long) x.window(rope, window, 0));
            values.add((long) x.window(rope, window, 1));
        }
        values.add((long) x.ifInspected(rope, 0, 23));
        values.add((long) x.bestInspection(rope, 5));
        values.add((long) x.tripsLeft(rope));
    }
}
