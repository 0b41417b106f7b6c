/** For each sentence of the promises 1 to 24 of ../shared/DOC.md a test of its own, at the edges that it names. */
public final class PromiseEdgeTests extends Sentences {
    private static final String[] HEADINGS = {"A new object", "hang", "cut", "swap", "inspect", "set", "trip", "pass",
        "append", "clearBuffer", "firstError", "run", "undo", "rope", "section", "window", "count", "setting",
        "ifInspected", "bestInspection", "tripsLeft", "unseen", "countedShare", "digest"};
    private static final String NO_SUCH_ROPE = "Throws IndexOutOfBoundsException if there is no such rope";
    private static final String NO_SUCH_SECTION =
        "Throws IndexOutOfBoundsException if there is no such rope or section";
    private static final String TO_BELOW_FROM = "Throws IllegalArgumentException if to is less than from";
    private static final String QUALITY_OUT_OF_RANGE = "Throws IllegalArgumentException if quality is out of range";

    public static void main(String[] args) {
        promise(1);
        newObject();
        promise(2);
        hang();
        promise(3);
        cut();
        promise(4);
        swap();
        promise(5);
        inspect();
        inspectRefused();
        promise(6);
        set();
        promise(7);
        trip();
        tripRefused();
        promise(8);
        pass();
        promise(9);
        append();
        promise(10);
        clearBuffer();
        promise(11);
        firstError();
        promise(12);
        run();
        runRefused();
        promise(13);
        undo();
        promise(14);
        ropeAndItsCounts();
        ropeAndItsWindows();
        ropeAndItsRetiring();
        ropeRefused();
        promise(15);
        section();
        sectionRefused();
        promise(16);
        window();
        promise(17);
        count();
        countOfWhatWas();
        promise(18);
        setting();
        promise(19);
        ifInspected();
        ifInspectedRefused();
        promise(20);
        bestInspection();
        bestInspectionRefused();
        promise(21);
        tripsLeft();
        promise(22);
        unseen();
        noneUnseen();
        promise(23);
        countedShare();
        promise(24);
        digest();
        for (int number = 1; number <= 24; number++) {
            dueAllQuoted("Promise " + number + ":");
        }
        finish("each sentence of the promises holds");
    }

    private static void promise(int number) {
        below("Promise " + number + ": " + HEADINGS[number - 1]);
    }

    /** Of two ropes those that there are answer; the numbers next to them, and far ones, are refused. */
    private static void dueRopes(RopeThreads two, String call, CallWith it) {
        it.answer(0);
        it.answer(1);
        refusedBeyond(two, INDEX, 0, 1, call, it);
    }

    private static void refusedWithoutRopes(String call, CallOf it) {
        RopeThreads x = new RopeThreads();
        refused(x, call + " without ropes", INDEX, () -> it.answer(x));
    }

    // ---- promises 1 to 6

    private static void newObject() {
        sentence("Creates an elevator without ropes, in the month 0, with an empty buffer.");
        RopeThreads x = new RopeThreads();
        due("the month", x.count(0), 0);
        due("ropes", x.count(1), 0);
        due("ropes to be retired", x.count(2), 0);
        due("it can run", x.count(3), 0);
        due("trips", x.count(4), 0);
        due("sections inspected", x.count(5), 0);
        due("swaps", x.count(6), 0);
        due("not counted", x.count(7), 0);
        due("saved states", x.count(8), 0);
        refused(x, "rope(0, 0)", INDEX, () -> x.rope(0, 0));
        refused(x, "undo()", STATE, x::undo);
        due("firstError()", x.firstError(), 0);
        due("clearBuffer()", x.clearBuffer(), 0);
        RopeThreads other = new RopeThreads();
        x.hang(5);
        x.pass(2);
        x.set(0, 9);
        x.append('0');
        dueSame("calls of another object", other, new RopeThreads());
    }

    private static void hang() {
        sentence("Hangs a rope. Undoable.");
        RopeThreads x = loose(5, 5);
        x.trip(0, 7, 9);
        x.pass(2);
        leaveRoom(x);
        dueUndone(x, "hang(5)", () -> x.hang(5));
        x.hang(5);
        due("ropes", x.count(1), 3);
        for (int section = 0; section < 24; section++) {
            for (int what = 0; what < 4; what++) {
                due("section " + section + " of a new rope", x.section(2, section, what), 0);
            }
            due("its month", x.section(2, section, 4), 2);
        }

        sentence("quality: 1 to 99");
        RopeThreads quality = withRopes(1, 99);
        due("the least", quality.rope(0, 0), 1);
        due("the greatest", quality.rope(1, 0), 99);

        sentence("Returns its number.");
        RopeThreads five = new RopeThreads();
        for (int i = 0; i < 5; i++) {
            due("hang", five.hang(9), i);
        }
        five.cut(0);
        due("hang behind cut", five.hang(9), 4);

        sentence(QUALITY_OUT_OF_RANGE);
        RopeThreads empty = new RopeThreads();
        refusedBeyond(empty, ARGUMENT, 1, 99, "hang", empty::hang);
        refusedBeyond(five, ARGUMENT, 1, 99, "hang as the sixth", five::hang);

        sentence("Throws IllegalStateException if there are 5 ropes");
        refused(five, "hang(1) as the sixth", STATE, () -> five.hang(1));
        refused(five, "hang(99) as the sixth", STATE, () -> five.hang(99));
        five.swap(0, 9);
        refused(five, "hang(9) behind a swap", STATE, () -> five.hang(9));
        five.cut(4);
        due("hang(9) behind a cut", five.hang(9), 4);
        five.undo();
        due("hang(9) behind undo()", five.hang(9), 4);
    }

    private static void cut() {
        sentence("Cuts a rope. Undoable.");
        for (int place = 0; place < 5; place++) {
            RopeThreads x = loose(1, 2, 3, 4, 5);
            x.trip(0, 7, 12);
            x.pass(1);
            for (int rope = 0; rope < 5; rope++) {
                x.inspect(rope, rope, rope);
                x.inspect(rope, rope, rope);
            }
            leaveRoom(x);
            int cut = place;
            dueUndone(x, "cut(" + place + ")", () -> x.cut(cut));
            x.cut(place);
            for (int rope = 0; rope < 4; rope++) {
                int was = rope < place ? rope : rope + 1;
                due("its quality", x.rope(rope, 0), was + 1);
                due("its count", x.section(rope, was, 2), 12 / (was + 1));
                due("the count ahead of it", x.section(rope, was, 3), 12 / (was + 1));
                due("the count beside it", x.section(rope, was + 1, 2), 0);
                due("its month", x.section(rope, was, 4), 1);
                due("its trips", x.rope(rope, 9), 12);
            }
            x.hang(9);
            dueDigest(x, "");
            due("broken threads of the rope in the free place", x.rope(4, 3), 0);
        }

        sentence("rope: its number");
        RopeThreads x = withRopes(7, 8, 9);
        x.cut(2);
        due("the last one is cut", x.rope(1, 0), 8);
        x.cut(0);
        due("the first one is cut", x.rope(0, 0), 8);

        sentence("Returns how many ropes there are then.");
        RopeThreads five = withRopes(1, 1, 1, 1, 1);
        for (int left = 4; left >= 0; left--) {
            due("cut(0)", five.cut(0), left);
        }
        due("ropes", five.count(1), 0);
        due("hang(5) behind that", five.hang(5), 0);

        sentence(NO_SUCH_ROPE);
        RopeThreads two = withRopes(1, 2);
        refusedBeyond(two, INDEX, 0, 1, "cut", two::cut);
        refusedWithoutRopes("cut(0)", y -> y.cut(0));
        two.cut(1);
        refused(two, "cut(1) again", INDEX, () -> two.cut(1));
    }

    private static void swap() {
        sentence("Swaps a rope for a new one. Undoable.");
        RopeThreads x = loose(1, 1);
        x.trip(0, 7, 9);
        x.inspect(1, 0, 23);
        x.inspect(1, 0, 23);
        x.pass(3);
        leaveRoom(x);
        dueUndone(x, "swap(1, 1)", () -> x.swap(1, 1));
        x.swap(1, 1);
        for (int section = 0; section < 24; section++) {
            for (int what = 0; what < 4; what++) {
                due("section " + section + " of a new rope", x.section(1, section, what), 0);
            }
            due("its month", x.section(1, section, 4), 3);
        }
        due("its trips", x.rope(1, 9), 0);
        due("its month", x.rope(1, 1), 3);
        due("swaps", x.count(6), 1);
        due("the other rope", x.rope(0, 3), 24 * 9);

        sentence("rope: its number");
        RopeThreads two = withRopes(5, 6);
        dueRopes(two, "swap", rope -> two.swap(rope, 70 + rope));
        due("rope 0", two.rope(0, 0), 70);
        due("rope 1", two.rope(1, 0), 71);

        sentence("quality: 1 to 99, that of the new one");
        two.swap(0, 1);
        two.swap(1, 99);
        due("the least", two.rope(0, 0), 1);
        due("the greatest", two.rope(1, 0), 99);

        sentence("Returns the broken threads that the old one had, of all sections.");
        RopeThreads old = loose(4, 4);
        due("swap of a rope without wear", old.swap(0, 4), 0);
        trips(old, 0, 7, 3);
        due("swap of a rope without broken threads", old.swap(0, 4), 0);
        trips(old, 0, 0, 1);
        trips(old, 7, 7, 5);
        due("swap of a rope that has them first and last", old.swap(1, 99), 3 * 1 + 3 * 2);
        old.inspect(0, 0, 23);
        due("swap of a rope that was inspected", old.swap(0, 99), 3 * 1);

        sentence(NO_SUCH_ROPE);
        refusedBeyond(two, INDEX, 0, 1, "swap", rope -> two.swap(rope, 5));
        refusedBeyond(two, INDEX, 0, 1, "swap to the quality 0", rope -> two.swap(rope, 0));
        refusedWithoutRopes("swap(0, 5)", y -> y.swap(0, 5));

        sentence(QUALITY_OUT_OF_RANGE);
        refusedBeyond(two, ARGUMENT, 1, 99, "swap", quality -> two.swap(1, quality));
    }

    private static void inspect() {
        sentence("Inspects sections of a rope. Undoable.");
        RopeThreads x = loose(1, 1);
        x.trip(0, 7, 2);
        x.pass(1);
        leaveRoom(x);
        dueUndone(x, "inspect(0, 3, 8)", () -> x.inspect(0, 3, 8));
        x.inspect(0, 3, 8);
        for (int section = 0; section < 24; section++) {
            boolean within = section >= 3 && section <= 8;
            due("the count of " + section, x.section(0, section, 2), within ? 2 : 0);
            due("the month of " + section, x.section(0, section, 4), within ? 1 : 0);
            due("the count of the other rope", x.section(1, section, 2), 0);
        }
        due("sections inspected", x.count(5), 6);

        sentence("rope: its number");
        RopeThreads two = loose(1, 1);
        dueRopes(two, "inspect", rope -> two.inspect(rope, 5, 6));
        due("sections inspected", two.count(5), 4);

        sentence("from: the first section, 0 to 23");
        due("the first one", two.inspect(0, 0, 23), 0);
        due("the last one", two.inspect(0, 23, 23), 0);
        due("sections inspected", two.count(5), 4 + 24 + 1);

        sentence("to: the last section, from to 23");
        for (int from = 0; from < 24; from++) {
            int first = from;
            RopeThreads y = loose(1, 1);
            y.trip(0, 7, 1);
            if (from > 0) {
                refused(y, "to below from", ARGUMENT, () -> y.inspect(0, first, first - 1));
            }
            due("from = to", y.inspect(0, from, from), 1);
            due("to 23", y.inspect(0, from, 23), 23 - from);
            due("section 23", y.section(0, 23, 2), 1);
            due("all counts", y.rope(0, 2), 24 - from);
        }

        sentence("Returns by how much the sum of all counts of the rope becomes greater.");
        RopeThreads sum = loose(2, 2);
        sum.trip(0, 7, 3);
        due("the first inspection", sum.inspect(1, 0, 9), 10);
        due("the same again", sum.inspect(1, 0, 9), 0);
        sum.trip(0, 0, 3);
        due("counts that were 1 and are 3", sum.inspect(1, 0, 5), 3 * 2);
        due("the sum", sum.rope(1, 2), 16);
        due("sections without wear", loose(5).inspect(0, 0, 23), 0);
    }

    private static void inspectRefused() {
        sentence(NO_SUCH_SECTION);
        RopeThreads two = loose(1, 1);
        two.trip(0, 7, 1);
        refusedBeyond(two, INDEX, 0, 1, "inspect rope", rope -> two.inspect(rope, 0, 23));
        refusedBeyond(two, INDEX, 0, 23, "inspect from", from -> two.inspect(0, from, 23));
        refusedBeyond(two, INDEX, 0, 23, "inspect to", to -> two.inspect(0, 0, to));
        refused(two, "inspect(0, 24, 24)", INDEX, () -> two.inspect(0, 24, 24));
        refused(two, "inspect(0, -1, -1)", INDEX, () -> two.inspect(0, -1, -1));
        refusedWithoutRopes("inspect(0, 0, 0)", y -> y.inspect(0, 0, 0));

        sentence(TO_BELOW_FROM);
        refused(two, "inspect(0, 1, 0)", ARGUMENT, () -> two.inspect(0, 1, 0));
        refused(two, "inspect(1, 23, 22)", ARGUMENT, () -> two.inspect(1, 23, 22));
        refused(two, "inspect(1, 23, 0)", ARGUMENT, () -> two.inspect(1, 23, 0));
    }

    private static void set() {
        int[] most = {12, 99, 999, 99, 60};
        sentence("Changes a setting. Undoable.");
        RopeThreads x = new RopeThreads();
        for (int setting = 0; setting <= 4; setting++) {
            int which = setting;
            dueUndone(x, "set(" + setting + ", 1)", () -> x.set(which, 1));
        }

        sentence("setting: 0 to 4");
        x.set(0, 2);
        x.set(4, 6);
        due("the first", x.setting(0), 2);
        due("the last", x.setting(4), 6);

        sentence("value: the new value");
        for (int setting = 0; setting <= 4; setting++) {
            RopeThreads y = new RopeThreads();
            y.set(setting, 1);
            due("the least", y.setting(setting), 1);
            y.set(setting, most[setting]);
            due("the greatest", y.setting(setting), most[setting]);
        }

        sentence("Returns the previous value.");
        due("set to the same", x.set(0, 2), 2);
        due("set to another", x.set(0, 12), 2);
        due("set again", x.set(0, 1), 12);

        sentence("Throws IndexOutOfBoundsException if there is no such setting");
        refusedBeyond(x, INDEX, 0, 4, "set", setting -> x.set(setting, 1));
        refusedBeyond(x, INDEX, 0, 4, "set to 0", setting -> x.set(setting, 0));

        sentence("Throws IllegalArgumentException if value is out of range");
        for (int setting = 0; setting <= 4; setting++) {
            int which = setting;
            refusedBeyond(x, ARGUMENT, 1, most[setting], "set", value -> x.set(which, value));
        }
    }

    // ---- promises 7 and 8

    private static void trip() {
        sentence("Makes trips between two floors. Undoable.");
        RopeThreads x = loose(1, 9);
        leaveRoom(x);
        dueUndone(x, "trip(5, 2, 3)", () -> x.trip(5, 2, 3));
        x.trip(5, 2, 3);
        for (int section = 0; section < 24; section++) {
            due("the bends of " + section, x.section(1, section, 0), section >= 6 && section <= 17 ? 3 : 0);
        }
        due("the trips of a rope", x.rope(0, 9), 3);

        sentence("from: 0 to 7");
        RopeThreads from = loose(9, 9);
        from.trip(0, 1, 1);
        from.trip(7, 1, 1);
        due("from the first floor", from.section(0, 0, 0), 1);
        due("from the last floor", from.section(0, 23, 0), 1);

        sentence("to: 0 to 7, perhaps the same");
        RopeThreads to = loose(9, 9);
        to.trip(6, 0, 1);
        to.trip(6, 7, 1);
        due("to the first floor", to.section(0, 0, 0), 1);
        due("to the last floor", to.section(0, 23, 0), 1);
        to.trip(0, 0, 1);
        to.trip(7, 7, 1);
        due("at the first floor", to.section(0, 2, 0), 2);
        due("beside it", to.section(0, 3, 0), 1);
        due("at the last floor", to.section(0, 21, 0), 2);
        due("beside it", to.section(0, 20, 0), 2);

        sentence("times: 1 to 99");
        RopeThreads times = loose(99, 99);
        due("once", times.trip(0, 7, 1), 1);
        due("99 times", times.trip(0, 7, 99), 100);
        due("bends", times.section(0, 0, 0), 100);

        sentence("Returns how many trips there were so far.");
        times.hang(5);
        due("a trip of three ropes", times.trip(0, 0, 1), 101);
        times.swap(0, 99);
        times.cut(1);
        due("a trip behind swap and cut", times.trip(0, 0, 1), 102);
        times.undo();
        due("a trip behind undo()", times.trip(0, 0, 2), 103);
        type(times, "0-0*4");
        times.run();
        due("a trip behind run()", times.trip(0, 0, 1), 108);
    }

    private static void tripRefused() {
        sentence("Throws IndexOutOfBoundsException if there is no such floor");
        RopeThreads x = loose(9, 9);
        refusedBeyond(x, INDEX, 0, 7, "trip from", floor -> x.trip(floor, 3, 1));
        refusedBeyond(x, INDEX, 0, 7, "trip to", floor -> x.trip(3, floor, 1));
        refusedBeyond(x, INDEX, 0, 7, "trip at", floor -> x.trip(floor, floor, 1));

        sentence("Throws IllegalArgumentException if times is out of range");
        refusedBeyond(x, ARGUMENT, 1, 99, "trip", times -> x.trip(0, 7, times));

        sentence("Throws IllegalStateException if the elevator cannot run, or there would be more than 99999 trips so"
            + " far");
        RopeThreads one = withRopes(1);
        refused(one, "trip with one rope", STATE, () -> one.trip(0, 7, 1));
        one.hang(1);
        due("trip with two ropes", one.trip(0, 0, 8), 8);
        one.inspect(1, 2, 2);
        refused(one, "trip with a rope to be retired", STATE, () -> one.trip(0, 7, 1));
        one.undo();
        due("trip behind undo()", one.trip(0, 0, 1), 9);
        one.pass(4);
        refused(one, "trip with ropes to be inspected", STATE, () -> one.trip(0, 7, 1));
        // So many trips take more than the 512 calls that are promised.
        RopeThreads many = loose(99, 99);
        trips(many, 0, 0, 99950);
        refused(many, "trip to 100000 trips", STATE, () -> many.trip(0, 0, 50));
        due("trip to 99999 trips", many.trip(0, 0, 49), 99999);
        refused(many, "trip behind 99999 trips", STATE, () -> many.trip(0, 0, 1));
    }

    private static void pass() {
        sentence("Lets months pass. Undoable.");
        RopeThreads x = withRopes(5);
        dueUndone(x, "pass(5)", () -> x.pass(5));

        sentence("months: 1 to 24");
        x.pass(1);
        due("one month", x.count(0), 1);
        x.pass(24);
        due("24 months", x.count(0), 25);

        sentence("Returns how many ropes are to be retired then.");
        RopeThreads many = withRopes(1, 1);
        due("no rope", new RopeThreads().pass(24), 0);
        many.pass(1);
        many.hang(1);
        due("in the month 3", many.pass(2), 0);
        due("in the month 4", many.pass(1), 2);
        due("in the month 5", many.pass(1), 3);
        many.inspect(1, 0, 23);
        due("in the month 8", many.pass(3), 2);
        due("in the month 9", many.pass(1), 3);
        RopeThreads other = withRopes(1, 1);
        other.trip(0, 0, 8);
        other.inspect(1, 0, 0);
        due("a rope for another reason", other.pass(1), 1);

        sentence("Throws IllegalArgumentException if months is out of range");
        refusedBeyond(x, ARGUMENT, 1, 24, "pass", x::pass);

        sentence("Throws IllegalStateException if the number of the month would be above 2000");
        RopeThreads late = withRopes(5);
        months(late, 1976);
        late.pass(24);
        due("the month", late.count(0), 2000);
        refused(late, "pass(1) in the month 2000", STATE, () -> late.pass(1));
        refused(late, "pass(24) in the month 2000", STATE, () -> late.pass(24));
        late.undo();
        late.pass(1);
        refused(late, "pass(24) in the month 1977", STATE, () -> late.pass(24));
        due("pass(23) in the month 1977", late.pass(23), 1);
        due("the month", late.count(0), 2000);
    }

    // ---- promises 9 to 13

    private static void append() {
        sentence("Appends a character to the buffer.");
        RopeThreads x = new RopeThreads();
        type(x, "0-7*23");
        dueDigest(x, "0-7*23");
        due("saved states", x.count(8), 0);

        sentence("code: the character code, 33 to 126");
        x.append(33);
        x.append(126);
        dueDigest(x, "0-7*23!~");

        sentence("Returns the new length of the buffer.");
        RopeThreads y = new RopeThreads();
        for (int length = 1; length <= 60; length++) {
            due("append", y.append(32 + length), length);
        }

        sentence("Throws IllegalArgumentException if code is not 33 to 126");
        refusedBeyond(x, ARGUMENT, 33, 126, "append", x::append);
        refused(x, "append(0)", ARGUMENT, () -> x.append(0));

        sentence("Throws IllegalStateException if the buffer has 60 characters");
        refused(y, "append(33) to 60 characters", STATE, () -> y.append(33));
        refused(y, "append(126) to 60 characters", STATE, () -> y.append(126));
        refusedBeyond(y, ARGUMENT, 33, 126, "append to 60 characters", y::append);
        y.clearBuffer();
        due("append behind clearBuffer()", y.append(33), 1);
    }

    private static void clearBuffer() {
        sentence("Clears the buffer.");
        RopeThreads x = withRopes(5);
        type(x, "0-7");
        x.clearBuffer();
        dueDigest(x, "");
        due("saved states", x.count(8), 1);
        x.undo();
        due("append behind undo()", x.append('7'), 1);
        dueDigest(x, "7");

        sentence("Returns the length that it had.");
        RopeThreads y = new RopeThreads();
        due("of an empty buffer", y.clearBuffer(), 0);
        y.append('x');
        due("of one character", y.clearBuffer(), 1);
        type(y, repeated("x", 60));
        due("of a full buffer", y.clearBuffer(), 60);
        due("of a cleared buffer", y.clearBuffer(), 0);
    }

    private static void dueError(String text, int place) {
        RopeThreads x = new RopeThreads();
        type(x, text);
        quiet(x, "firstError() of " + text, place, x::firstError);
        dueDigest(x, text);
    }

    private static void firstError() {
        sentence("Finds the first syntax error of the buffer.");
        dueError("0-7;0-9;9", 6);

        sentence("Returns the index of the first character that is a syntax error;");
        dueError("x", 0);
        dueError("0x", 1);
        dueError(repeated("0-0;", 14) + "0-0x", 59);
        dueError(repeated("0-0;", 14) + "0--0", 58);
        dueError(repeated("*", 60), 0);

        sentence("the length of the buffer if there is none.");
        dueError("", 0);
        dueError("0", 1);
        dueError("0-7*99", 6);
        dueError(repeated("0-0;", 15), 60);
        dueError("7-0*1", 5);
    }

    private static void run() {
        sentence("Makes the trips in the buffer, all or none, and clears the buffer.");
        RopeThreads all = loose(3, 4);
        RopeThreads tripped = loose(3, 4);
        type(all, "0-7*2;5-1;3-3*99;7-7");
        all.run();
        tripped.trip(0, 7, 2);
        tripped.trip(5, 1, 1);
        tripped.trip(3, 3, 99);
        tripped.trip(7, 7, 1);
        for (int section = 0; section < 24; section++) {
            due("the bends of " + section, all.section(1, section, 0), tripped.section(1, section, 0));
        }
        due("trips", all.count(4), 103);
        due("the length of the buffer", all.clearBuffer(), 0);
        RopeThreads none = loose(3, 4);
        type(none, "0-7*2;5-1;3-3*99;7-8");
        refused(none, "a text that is good but for its last character", ARGUMENT, none::run);
        due("the length of the buffer", none.clearBuffer(), 20);
        due("trips", none.count(4), 0);

        sentence("Undoable, as one call.");
        RopeThreads x = loose(3, 4);
        leaveRoom(x);
        type(x, repeated("0-0;", 14) + "0-7");
        due("run()", x.run(), 15);
        due("saved states", x.count(8), 6);
        due("undo()", x.undo(), 5);
        due("trips", x.count(4), 0);
        due("bends", x.section(0, 0, 0), 0);
        due("the length of the buffer", x.clearBuffer(), 0);

        sentence("Returns how many trips there were so far.");
        RopeThreads y = loose(99, 99);
        type(y, "0-0");
        due("the first run()", y.run(), 1);
        type(y, "0-0*2");
        due("the second run()", y.run(), 3);
        y.trip(0, 0, 9);
        type(y, repeated("0-0*99;", 8) + "1-1");
        due("a run() of 60 characters but one", y.run(), 3 + 9 + 8 * 99 + 1);
        type(y, "2-2");
        due("a run() of one part behind one of many", y.run(), 3 + 9 + 8 * 99 + 2);
    }

    private static void runRefused() {
        sentence("Throws IllegalArgumentException if the buffer is not complete trips as a text");
        RopeThreads x = loose(9, 9);
        for (String text : new String[] {"", "0", "0-", "0-7*", "0-7*1", "0-7;", "0-7*2;", "0-7*1;0-7", "0-7*0",
            "0-7*100", "8-7", "0-8", ";0-7", "0-7;;0-7", "x", repeated("0-7;", 15), repeated("0", 60)}) {
            type(x, text);
            refused(x, "run() of " + text, ARGUMENT, x::run);
            due("the length of the buffer", x.clearBuffer(), text.length());
        }

        sentence("Throws IllegalStateException if the elevator cannot run, or there would be more than 99999 trips so"
            + " far");
        RopeThreads one = withRopes(1);
        type(one, "0-0*8");
        refused(one, "run() with one rope", STATE, one::run);
        one.hang(1);
        due("run() with two ropes", one.run(), 8);
        one.inspect(0, 0, 0);
        type(one, "0-0");
        refused(one, "run() with a rope to be retired", STATE, one::run);
        one.swap(0, 1);
        due("run() behind a swap", one.run(), 9);
        // So many trips take more than the 512 calls that are promised.
        RopeThreads many = loose(99, 99);
        trips(many, 0, 0, 99900);
        type(many, "0-0*98;1-1*2");
        refused(many, "run() to 100000 trips", STATE, many::run);
        due("no trip is made of those that would be too many", many.section(0, 0, 0), 99900);
        type(many, "0-0*80;1-1*10;2-2*10");
        refused(many, "run() of three parts to 100000 trips", STATE, many::run);
        type(many, "0-0*97;1-1*2");
        due("run() to 99999 trips", many.run(), 99999);
        type(many, "0-0");
        refused(many, "run() behind 99999 trips", STATE, many::run);
    }

    private static void undo() {
        sentence("Restores the latest saved state, and drops it.");
        RopeThreads x = new RopeThreads();
        x.set(0, 1);
        x.set(0, 2);
        x.set(0, 3);
        x.undo();
        due("behind one undo()", x.setting(0), 2);
        x.undo();
        due("behind two", x.setting(0), 1);
        x.set(0, 9);
        x.undo();
        due("behind set and undo()", x.setting(0), 1);
        x.undo();
        due("behind all", x.setting(0), 4);

        sentence("Returns how many saved states are left.");
        RopeThreads y = new RopeThreads();
        for (int i = 1; i <= 9; i++) {
            y.pass(1);
        }
        for (int left = 5; left >= 0; left--) {
            due("undo()", y.undo(), left);
            due("saved states", y.count(8), left);
        }
        due("the month", y.count(0), 3);

        sentence("Throws IllegalStateException if there is none");
        refused(y, "undo() behind all", STATE, y::undo);
        RopeThreads empty = new RopeThreads();
        refused(empty, "undo() of a new object", STATE, empty::undo);
        y.pass(1);
        due("undo() behind a call", y.undo(), 0);
        refused(y, "undo() again", STATE, y::undo);
    }

    // ---- promise 14

    private static void ropeAndItsCounts() {
        sentence("Returns a property of a rope.");
        RopeThreads x = loose(2, 3);
        for (int what = 0; what <= 9; what++) {
            int which = what;
            quiet(x, "rope(1, " + what + ")", x.rope(1, what), () -> x.rope(1, which));
        }

        sentence("rope: its number");
        due("rope 0", x.rope(0, 0), 2);
        due("rope 1", x.rope(1, 0), 3);

        sentence("what: 0: its quality;");
        RopeThreads quality = withRopes(1, 99);
        quality.trip(0, 0, 1);
        due("the least", quality.rope(0, 0), 1);
        due("the greatest", quality.rope(1, 0), 99);

        sentence("1: the month in which it was hung;");
        RopeThreads month = withRopes(1);
        months(month, 2000);
        month.hang(1);
        due("the first one", month.rope(0, 1), 0);
        due("the last one", month.rope(1, 1), 2000);

        sentence("2: the sum of all counts;");
        RopeThreads counts = loose(1, 1);
        counts.trip(0, 7, 2);
        due("not inspected", counts.rope(0, 2), 0);
        counts.inspect(0, 0, 0);
        due("section 0 inspected", counts.rope(0, 2), 2);
        counts.inspect(0, 23, 23);
        due("section 23 inspected", counts.rope(0, 2), 4);
        counts.inspect(0, 0, 23);
        due("all inspected", counts.rope(0, 2), 48);
        due("the other rope", counts.rope(1, 2), 0);

        sentence("3: its broken threads, of all sections;");
        RopeThreads broken = loose(3, 1);
        broken.trip(0, 7, 2);
        due("two bends each", broken.rope(0, 3), 0);
        broken.trip(0, 0, 1);
        due("three bends of three sections", broken.rope(0, 3), 3);
        broken.trip(7, 7, 4);
        due("six bends of three more", broken.rope(0, 3), 3 + 6);
        broken.inspect(0, 0, 23);
        due("all inspected", broken.rope(0, 3), 9);
    }

    private static void ropeAndItsWindows() {
        sentence("4: the greatest sum of a window;");
        RopeThreads x = loose(1, 1);
        x.trip(0, 7, 2);
        due("no counts", x.rope(0, 4), 0);
        x.inspect(0, 0, 22);
        x.trip(7, 7, 5);
        x.inspect(0, 23, 23);
        int[] dues = {7, 9, 11, 13, 15, 17, 19, 21, 23, 25, 27, 29};
        for (int size = 1; size <= 12; size++) {
            x.set(0, size);
            due("the greatest sum of " + size, x.rope(0, 4), dues[size - 1]);
        }

        sentence("5: the window with that sum, of several the lowest one;");
        for (int size = 1; size <= 12; size++) {
            x.set(0, size);
            due("the last window", x.rope(0, 5), 24 - size);
        }
        RopeThreads several = loose(1, 1);
        several.trip(0, 7, 2);
        due("no counts", several.rope(0, 5), 0);
        several.inspect(0, 10, 10);
        due("one count", several.rope(0, 5), 7);
        several.inspect(0, 20, 20);
        due("two counts", several.rope(0, 5), 7);
        several.inspect(0, 3, 3);
        due("three counts", several.rope(0, 5), 0);
        several.inspect(0, 0, 23);
        due("all counts", several.rope(0, 5), 0);

        sentence("6: the greatest true sum of a window;");
        RopeThreads wear = loose(2, 2);
        due("no wear", wear.rope(0, 6), 0);
        wear.trip(0, 7, 3);
        wear.trip(7, 7, 1);
        for (int size = 1; size <= 12; size++) {
            wear.set(0, size);
            due("the greatest true sum of " + size, wear.rope(0, 6), size + Math.min(size, 3));
        }
        wear.trip(0, 0, 5);
        wear.set(0, 1);
        due("the greatest true sum of one", wear.rope(0, 6), 4);
        wear.inspect(0, 20, 23);
        due("counts do not matter", wear.rope(0, 6), 4);
        wear.set(0, 3);
        wear.trip(0, 0, 1);
        due("the first three sections", wear.rope(0, 6), 3 * 4);
    }

    private static void ropeAndItsRetiring() {
        sentence("7: the reason for which it is to be retired, 0 if there is none;");
        RopeThreads x = withRopes(1, 1);
        x.trip(0, 7, 5);
        due("none", x.rope(0, 7), 0);
        x.inspect(0, 0, 23);
        due("1", x.rope(0, 7), 1);
        due("none of the other", x.rope(1, 7), 0);
        x.set(1, 99);
        due("2", x.rope(0, 7), 2);
        x.set(2, 999);
        due("3", x.rope(0, 7), 3);
        x.set(3, 99);
        due("none again", x.rope(0, 7), 0);
        x.pass(4);
        due("4", x.rope(0, 7), 4);

        sentence("8: months until it is to be retired for the reason 4, 0 if it is, by that, now;");
        RopeThreads months = withRopes(1, 1);
        for (int left = 4; left > 0; left--) {
            due("months left", months.rope(0, 8), left);
            due("no reason yet", months.rope(0, 7), 0);
            months.pass(1);
        }
        due("no month left", months.rope(0, 8), 0);
        due("the reason", months.rope(0, 7), 4);
        months.pass(24);
        due("long no month left", months.rope(0, 8), 0);
        months.inspect(0, 0, 22);
        due("one section is not inspected", months.rope(0, 8), 0);
        months.inspect(0, 23, 23);
        due("all inspected", months.rope(0, 8), 4);
        months.set(4, 60);
        due("all inspected, the limit is 60", months.rope(0, 8), 61);
        due("not inspected for 28 months, the limit is 60", months.rope(1, 8), 61 - 28);
        months.set(4, 1);
        due("all inspected, the limit is 1", months.rope(0, 8), 2);
        x.set(1, 8);
        due("to be retired for another reason ahead of 4", x.rope(0, 7), 1);
        due("no month left all the same", x.rope(0, 8), 0);
        x.set(4, 5);
        due("months left of a rope to be retired for another reason", x.rope(0, 8), 2);

        sentence("9: trips since it was hung");
        RopeThreads trips = loose(9, 9);
        due("of a new rope", trips.rope(0, 9), 0);
        trips.trip(0, 0, 1);
        trips.trip(7, 0, 99);
        trips.hang(9);
        trips.trip(3, 3, 2);
        due("of a rope that made all", trips.rope(0, 9), 102);
        due("of a rope that made the last two", trips.rope(2, 9), 2);
        trips.swap(0, 9);
        due("of a swapped one", trips.rope(0, 9), 0);
        due("of that beside it", trips.rope(1, 9), 102);
    }

    private static void ropeRefused() {
        sentence("Returns the property.");
        dueDigest(loose(1, 2, 3, 4, 5), "");

        sentence(NO_SUCH_ROPE);
        RopeThreads x = withRopes(1, 2);
        for (int what = 0; what <= 9; what++) {
            int which = what;
            dueRopes(x, "rope", rope -> x.rope(rope, which));
        }
        refusedBeyond(x, INDEX, 0, 1, "rope and what 10", rope -> x.rope(rope, 10));
        refusedWithoutRopes("rope(0, 0)", y -> y.rope(0, 0));

        sentence("Throws IllegalArgumentException if what is not 0 to 9");
        refusedBeyond(x, ARGUMENT, 0, 9, "rope", what -> x.rope(1, what));
    }

    // ---- promises 15 and 16

    private static void section() {
        sentence("Returns a property of a section.");
        RopeThreads x = loose(2, 3);
        x.trip(0, 7, 7);
        x.pass(1);
        x.inspect(1, 0, 0);
        x.trip(0, 0, 6);
        x.pass(1);
        x.inspect(1, 0, 0);
        for (int what = 0; what <= 4; what++) {
            int which = what;
            quiet(x, "section(1, 0, " + what + ")", new int[] {13, 4, 4, 2, 2}[what], () -> x.section(1, 0, which));
        }

        sentence("rope: the number of its rope");
        due("of rope 0", x.section(0, 0, 1), 6);
        due("of rope 1", x.section(1, 0, 1), 4);

        sentence("section: 0 to 23");
        due("the first one", x.section(0, 0, 0), 13);
        due("the last one", x.section(0, 23, 0), 7);

        sentence("what: 0: how often it was bent;");
        RopeThreads y = loose(4, 4);
        due("never", y.section(0, 5, 0), 0);
        y.trip(1, 1, 3);
        due("three times", y.section(0, 5, 0), 3);
        due("never beside it", y.section(0, 6, 0), 0);

        sentence("1: its broken threads;");
        due("of three bends", y.section(0, 5, 1), 0);
        y.trip(1, 1, 1);
        due("of four bends", y.section(0, 5, 1), 1);
        y.trip(1, 1, 3);
        due("of seven bends", y.section(0, 5, 1), 1);

        sentence("2: its count;");
        due("not inspected", y.section(0, 5, 2), 0);
        y.inspect(0, 5, 5);
        y.trip(1, 1, 1);
        due("of the inspection, not of now", y.section(0, 5, 2), 1);

        sentence("3: the count ahead of that;");
        due("behind one inspection", y.section(0, 5, 3), 0);
        y.inspect(0, 5, 5);
        due("behind two", y.section(0, 5, 3), 1);
        y.inspect(0, 5, 5);
        due("behind three", y.section(0, 5, 3), 2);

        sentence("4: the month of its latest inspection");
        y.pass(5);
        due("before", y.section(0, 5, 4), 0);
        y.inspect(0, 5, 5);
        y.pass(1);
        due("then", y.section(0, 5, 4), 5);
        y.hang(4);
        due("never inspected", y.section(2, 5, 4), 6);

        sentence("Returns the property.");
        dueDigest(x, "");
        dueDigest(y, "");
    }

    private static void sectionRefused() {
        sentence(NO_SUCH_SECTION);
        RopeThreads x = loose(2, 3);
        dueRopes(x, "section", rope -> x.section(rope, 0, 0));
        refusedBeyond(x, INDEX, 0, 23, "section", section -> x.section(1, section, 0));
        refusedBeyond(x, INDEX, 0, 23, "section and what 5", section -> x.section(1, section, 5));
        refusedBeyond(x, INDEX, 0, 1, "section and what 5", rope -> x.section(rope, 0, 5));
        refusedWithoutRopes("section(0, 0, 0)", z -> z.section(0, 0, 0));

        sentence("Throws IllegalArgumentException if what is not 0 to 4");
        refusedBeyond(x, ARGUMENT, 0, 4, "section", what -> x.section(1, 23, what));
    }

    private static void window() {
        sentence("Returns a property of a window.");
        RopeThreads x = loose(1, 2);
        x.trip(0, 7, 3);
        x.inspect(1, 0, 1);
        quiet(x, "window(1, 0, 0)", 2, () -> x.window(1, 0, 0));
        quiet(x, "window(1, 0, 1)", 4, () -> x.window(1, 0, 1));

        sentence("rope: the number of its rope");
        due("of rope 0", x.window(0, 0, 1), 12);
        due("of rope 1", x.window(1, 0, 1), 4);

        sentence("window: its number");
        due("window 1", x.window(1, 1, 0), 1);
        due("window 2", x.window(1, 2, 0), 0);
        due("the last window", x.window(1, 20, 1), 4);

        sentence("what: 0: its sum;");
        x.inspect(1, 23, 23);
        due("of the last window", x.window(1, 20, 0), 1);
        due("of that beside it", x.window(1, 19, 0), 0);

        sentence("1: its true sum");
        x.trip(0, 0, 1);
        due("of the first window", x.window(1, 0, 1), 3 * 2 + 1);
        due("of that beside it", x.window(1, 1, 1), 2 * 2 + 2);

        sentence("Returns the property.");
        for (int size = 1; size <= 12; size++) {
            x.set(0, size);
            dueDigest(x, "");
        }

        sentence("Throws IndexOutOfBoundsException if there is no such rope or window");
        dueRopes(x, "window", rope -> x.window(rope, 0, 0));
        refusedBeyond(x, INDEX, 0, 1, "window and what 2", rope -> x.window(rope, 0, 2));
        refusedWithoutRopes("window(0, 0, 0)", y -> y.window(0, 0, 0));
        for (int size = 1; size <= 12; size++) {
            x.set(0, size);
            due("the last window of " + size, x.window(0, 24 - size, 1), size * 3);
            refusedBeyond(x, INDEX, 0, 24 - size, "window", window -> x.window(0, window, 0));
            refusedBeyond(x, INDEX, 0, 24 - size, "window and what 2", window -> x.window(0, window, 2));
        }

        sentence("Throws IllegalArgumentException if what is not 0 or 1");
        refusedBeyond(x, ARGUMENT, 0, 1, "window", what -> x.window(0, 12, what));
    }

    // ---- promises 17 and 18

    private static void count() {
        sentence("Returns a number.");
        RopeThreads x = loose(1, 2);
        for (int what = 0; what <= 8; what++) {
            int which = what;
            quiet(x, "count(" + what + ")", new int[] {0, 2, 0, 1, 0, 0, 0, 0, 6}[what], () -> x.count(which));
        }

        sentence("what: 0: the number of the month;");
        RopeThreads months = new RopeThreads();
        due("at first", months.count(0), 0);
        months(months, 2000);
        due("at last", months.count(0), 2000);

        sentence("1: ropes;");
        RopeThreads ropes = new RopeThreads();
        for (int i = 1; i <= 5; i++) {
            ropes.hang(1);
            due("ropes", ropes.count(1), i);
        }
        ropes.cut(4);
        due("ropes behind cut", ropes.count(1), 4);

        sentence("2: ropes that are to be retired;");
        RopeThreads retired = withRopes(1, 1, 1, 1, 1);
        retired.trip(0, 0, 8);
        due("none", retired.count(2), 0);
        for (int i = 0; i < 5; i++) {
            retired.inspect(4 - i, 0, 0);
            due("ropes to be retired", retired.count(2), i + 1);
        }
        retired.cut(0);
        due("ropes to be retired behind cut", retired.count(2), 4);

        sentence("3: 1 if the elevator can run, otherwise 0;");
        RopeThreads runs = new RopeThreads();
        due("no ropes", runs.count(3), 0);
        runs.hang(1);
        due("one rope", runs.count(3), 0);
        runs.hang(1);
        due("two ropes", runs.count(3), 1);
        runs.pass(3);
        due("in the month 3", runs.count(3), 1);
        runs.pass(1);
        due("in the month 4", runs.count(3), 0);
        runs.swap(0, 1);
        due("one to be retired", runs.count(3), 0);
        runs.swap(1, 1);
        due("none to be retired", runs.count(3), 1);
    }

    private static void countOfWhatWas() {
        sentence("4: trips so far;");
        RopeThreads trips = loose(9, 9);
        trips.trip(0, 0, 1);
        trips.trip(0, 7, 99);
        type(trips, "0-0*2;1-1");
        trips.run();
        due("trips", trips.count(4), 103);
        trips.cut(0);
        trips.swap(0, 1);
        due("trips behind cut and swap", trips.count(4), 103);

        sentence("5: sections that were inspected so far;");
        RopeThreads sections = loose(9, 9);
        sections.inspect(0, 0, 0);
        due("one section", sections.count(5), 1);
        sections.inspect(0, 0, 0);
        due("the same section again", sections.count(5), 2);
        sections.inspect(1, 0, 23);
        due("all sections", sections.count(5), 26);
        sections.ifInspected(1, 0, 23);
        sections.cut(1);
        due("behind cut", sections.count(5), 26);
        sections.undo();
        sections.undo();
        due("behind undo()", sections.count(5), 2);

        sentence("6: swaps so far;");
        RopeThreads swaps = withRopes(9, 9);
        due("none", swaps.count(6), 0);
        swaps.swap(0, 1);
        swaps.swap(0, 1);
        due("two", swaps.count(6), 2);
        swaps.cut(0);
        due("two behind cut", swaps.count(6), 2);
        swaps.undo();
        swaps.undo();
        due("one behind undo()", swaps.count(6), 1);

        sentence("7: broken threads of all ropes that are not counted;");
        RopeThreads broken = loose(1, 2);
        due("no wear", broken.count(7), 0);
        broken.trip(0, 7, 3);
        due("none counted", broken.count(7), 24 * 3 + 24);
        broken.inspect(1, 0, 23);
        due("those of rope 1 counted", broken.count(7), 24 * 3);
        broken.inspect(0, 23, 23);
        due("one more section counted", broken.count(7), 23 * 3);
        broken.trip(7, 7, 1);
        due("behind a trip", broken.count(7), 23 * 3 + 3 * (1 + 1));
        broken.inspect(0, 0, 23);
        broken.inspect(1, 0, 23);
        due("all counted", broken.count(7), 0);

        sentence("8: saved states");
        RopeThreads saved = new RopeThreads();
        for (int i = 0; i < 8; i++) {
            due("saved states", saved.count(8), Math.min(i, 6));
            saved.pass(1);
        }
        saved.undo();
        due("saved states behind undo()", saved.count(8), 5);

        sentence("Returns the number.");
        dueDigest(broken, "");

        sentence("Throws IllegalArgumentException if what is not 0 to 8");
        refusedBeyond(saved, ARGUMENT, 0, 8, "count", saved::count);
    }

    private static void setting() {
        sentence("Returns a setting.");
        RopeThreads x = new RopeThreads();
        quiet(x, "setting(2)", 20, () -> x.setting(2));

        sentence("setting: 0 to 4");
        due("the first", x.setting(0), 4);
        due("the last", x.setting(4), 3);

        sentence("Returns its value.");
        for (int setting = 0; setting <= 4; setting++) {
            x.set(setting, setting + 2);
        }
        for (int setting = 0; setting <= 4; setting++) {
            due("setting " + setting, x.setting(setting), setting + 2);
        }
        x.undo();
        due("setting 4 behind undo()", x.setting(4), 3);

        sentence("Throws IndexOutOfBoundsException if there is no such setting");
        refusedBeyond(x, INDEX, 0, 4, "setting", x::setting);
    }

    // ---- promises 19 to 22

    private static void ifInspected() {
        sentence("Tells the reason for retiring a rope, if it was inspected.");
        RopeThreads x = withRopes(1, 1);
        x.trip(0, 7, 2);
        quiet(x, "ifInspected(0, 5, 8)", 1, () -> x.ifInspected(0, 5, 8));
        due("it was not", x.rope(0, 7), 0);

        sentence("rope: its number");
        x.swap(1, 1);
        due("of rope 0", x.ifInspected(0, 0, 23), 1);
        due("of rope 1", x.ifInspected(1, 0, 23), 0);

        sentence("from: the first section, 0 to 23");
        due("the first one", x.ifInspected(0, 0, 3), 1);
        due("one behind it", x.ifInspected(0, 1, 3), 0);
        due("the last one", x.ifInspected(0, 23, 23), 0);

        sentence("to: the last section, from to 23");
        due("the last one", x.ifInspected(0, 20, 23), 1);
        due("one ahead of it", x.ifInspected(0, 20, 22), 0);
        for (int from = 0; from < 24; from++) {
            due("from = to", x.ifInspected(0, from, from), 0);
        }

        sentence("Returns the reason then, 0 if there is none.");
        RopeThreads y = withRopes(1, 1);
        due("none", y.ifInspected(0, 0, 23), 0);
        y.trip(0, 7, 5);
        due("1", y.ifInspected(0, 0, 23), 1);
        y.set(1, 99);
        due("2", y.ifInspected(0, 0, 23), 2);
        y.set(2, 999);
        due("3", y.ifInspected(0, 23, 23), 3);
        y.inspect(0, 23, 23);
        due("3 would end", y.ifInspected(0, 23, 23), 0);
        due("3 would stay", y.ifInspected(0, 22, 22), 3);
        y.set(3, 99);
        y.pass(4);
        due("4", y.ifInspected(0, 0, 22), 4);
        due("4", y.ifInspected(0, 1, 23), 4);
        due("4 would end", y.ifInspected(0, 0, 23), 0);
    }

    private static void ifInspectedRefused() {
        sentence(NO_SUCH_SECTION);
        RopeThreads x = withRopes(1, 1);
        dueRopes(x, "ifInspected", rope -> x.ifInspected(rope, 0, 23));
        refusedBeyond(x, INDEX, 0, 23, "ifInspected from", from -> x.ifInspected(0, from, 23));
        refusedBeyond(x, INDEX, 0, 23, "ifInspected to", to -> x.ifInspected(0, 0, to));
        refused(x, "ifInspected(2, 1, 0)", INDEX, () -> x.ifInspected(2, 1, 0));
        refused(x, "ifInspected(0, 24, 0)", INDEX, () -> x.ifInspected(0, 24, 0));
        refused(x, "ifInspected(0, 0, -1)", INDEX, () -> x.ifInspected(0, 0, -1));
        refusedWithoutRopes("ifInspected(0, 0, 0)", z -> z.ifInspected(0, 0, 0));

        sentence(TO_BELOW_FROM);
        refused(x, "ifInspected(0, 1, 0)", ARGUMENT, () -> x.ifInspected(0, 1, 0));
        refused(x, "ifInspected(1, 23, 22)", ARGUMENT, () -> x.ifInspected(1, 23, 22));
    }

    private static void bestInspection() {
        sentence("Finds the best sections to inspect.");
        RopeThreads x = loose(1, 1);
        x.trip(7, 7, 1);
        quiet(x, "bestInspection(0, 3)", 21, () -> x.bestInspection(0, 3));

        sentence("rope: its number");
        x.inspect(1, 21, 23);
        due("of rope 0", x.bestInspection(0, 1), 21);
        due("of rope 1", x.bestInspection(1, 1), 0);

        sentence("many: 1 to 24: sections side by side");
        due("one", x.bestInspection(0, 1), 21);
        due("all", x.bestInspection(0, 24), 0);
        due("all but one", x.bestInspection(0, 23), 1);

        sentence("Returns the first one of so many sections whose inspection would make the sum of all counts greatest,"
            + " of several the lowest one.");
        RopeThreads y = loose(1, 1);
        for (int many = 1; many <= 24; many++) {
            due("no wear", y.bestInspection(0, many), 0);
        }
        y.trip(0, 7, 2);
        for (int many = 1; many <= 24; many++) {
            due("the same wear everywhere", y.bestInspection(0, many), 0);
        }
        y.trip(4, 4, 1);
        due("most at the floor 4", y.bestInspection(0, 1), 12);
        due("most at the floor 4", y.bestInspection(0, 3), 12);
        due("most at the floor 4", y.bestInspection(0, 4), 11);
        due("most at the floor 4", y.bestInspection(0, 15), 0);
        due("most at the floor 4", y.bestInspection(0, 16), 0);
        y.inspect(0, 12, 13);
        due("two of them are counted", y.bestInspection(0, 1), 14);
        due("two of them are counted", y.bestInspection(0, 2), 14);
        y.inspect(0, 0, 22);
        for (int many = 1; many <= 24; many++) {
            due("all but the last one counted", y.bestInspection(0, many), 24 - many);
        }
        y.inspect(0, 23, 23);
        due("all counted", y.bestInspection(0, 1), 0);
    }

    private static void bestInspectionRefused() {
        sentence(NO_SUCH_ROPE);
        RopeThreads x = loose(1, 1);
        dueRopes(x, "bestInspection", rope -> x.bestInspection(rope, 5));
        refusedBeyond(x, INDEX, 0, 1, "bestInspection of 0", rope -> x.bestInspection(rope, 0));
        refusedWithoutRopes("bestInspection(0, 1)", z -> z.bestInspection(0, 1));

        sentence("Throws IllegalArgumentException if many is out of range");
        refusedBeyond(x, ARGUMENT, 1, 24, "bestInspection", many -> x.bestInspection(0, many));
    }

    private static void tripsLeft() {
        sentence("Tells how many trips over all floors a rope could make (whether the elevator can run does not"
            + " matter).");
        RopeThreads one = withRopes(7);
        quiet(one, "tripsLeft(0) of a single rope", 14, () -> one.tripsLeft(0));
        one.pass(24);
        due("of a rope to be retired", one.tripsLeft(0), 14);

        sentence("rope: its number");
        one.hang(8);
        due("of rope 0", one.tripsLeft(0), 14);
        due("of rope 1", one.tripsLeft(1), 16);

        sentence("Returns the least number of trips between the floors 0 and 7 behind which the true sum of some window"
            + " would be at least setting 1, 0 if one is now.");
        for (int quality : new int[] {1, 2, 7, 98, 99}) {
            for (int limit : new int[] {1, 2, 8, 98, 99}) {
                for (int size = 1; size <= 12; size++) {
                    dueTripsLeft(quality, limit, size);
                }
            }
        }
        RopeThreads uneven = loose(5, 5);
        uneven.set(0, 1);
        uneven.set(1, 4);
        uneven.trip(7, 7, 19);
        due("the last floor is worn", uneven.tripsLeft(0), 1);
        uneven.trip(0, 0, 20);
        due("the first floor is worn more", uneven.tripsLeft(0), 0);
        uneven.inspect(0, 0, 23);
        due("inspected", uneven.tripsLeft(0), 0);
        for (int floor = 0; floor <= 7; floor++) {
            RopeThreads worn = withRopes(10, 10);
            worn.set(0, 3);
            worn.set(1, 6);
            worn.trip(floor, floor, 15);
            due("only the floor " + floor + " is worn", worn.tripsLeft(0), 5);
        }

        sentence(NO_SUCH_ROPE);
        dueRopes(uneven, "tripsLeft", uneven::tripsLeft);
        refusedWithoutRopes("tripsLeft(0)", x -> x.tripsLeft(0));
    }

    /** Trips to one less than the limit, to it, and beyond. */
    private static void dueTripsLeft(int quality, int limit, int size) {
        RopeThreads x = loose(quality, 99);
        x.set(0, size);
        x.set(1, limit);
        int each = (limit + size - 1) / size;
        int all = each * quality;
        due("of a new rope", x.tripsLeft(0), all);
        trips(x, 7, 0, all - 1);
        due("one ahead of the limit", x.tripsLeft(0), 1);
        due("the true sum then", x.rope(0, 6) < limit ? 1 : 0, 1);
        x.trip(7, 0, 1);
        due("at the limit", x.tripsLeft(0), 0);
        due("the true sum then", x.rope(0, 6) < limit ? 1 : 0, 0);
        trips(x, 0, 7, quality);
        due("beyond the limit", x.tripsLeft(0), 0);
    }

    private static void unseen() {
        sentence("Tells what is unseen.");
        RopeThreads x = withRopes(9, 1);
        x.trip(0, 7, 2);
        quiet(x, "unseen()", 1, x::unseen);

        sentence("Returns the lowest rope that would be to be retired for the reason 1 or 2 if all of its sections were"
            + " inspected now, but is not to be retired now;");
        for (int lowest = 0; lowest < 5; lowest++) {
            RopeThreads five = withRopes(1, 1, 1, 1, 1);
            five.trip(7, 7, 3);
            for (int i = 0; i < lowest; i++) {
                five.inspect(i, 0, 23);
            }
            due("the lowest one of several, for the reason 1", five.unseen(), lowest);
        }
        RopeThreads first = withRopes(1, 1);
        first.set(1, 9);
        first.trip(0, 0, 2);
        due("a true sum of 6 below the limit 9", first.unseen(), -1);
        first.trip(0, 0, 1);
        due("a true sum at the limit 9", first.unseen(), 0);
        first.inspect(0, 1, 2);
        due("partly inspected", first.unseen(), 0);
        first.set(3, 3);
        due("to be retired now for the reason 3", first.unseen(), 1);
        RopeThreads second = withRopes(1, 1);
        second.set(1, 99);
        second.trip(0, 5, 1);
        due("18 threads below the limit 20", second.unseen(), -1);
        second.set(2, 19);
        due("18 threads below the limit 19", second.unseen(), -1);
        second.set(2, 18);
        due("18 threads at the limit, for the reason 2", second.unseen(), 0);
        second.inspect(0, 0, 0);
        second.set(2, 1);
        due("to be retired now for the reason 2", second.unseen(), 1);
        second.pass(4);
        due("to be retired now for the reason 4", second.unseen(), -1);
        second.inspect(1, 18, 23);
        due("to be retired now for the reason 4, partly inspected", second.unseen(), -1);
    }

    private static void noneUnseen() {
        sentence("NONE if there is none.");
        due("no ropes", new RopeThreads().unseen(), RopeThreads.NONE);
        due("new ropes", withRopes(1, 1, 1, 1, 1).unseen(), RopeThreads.NONE);
        RopeThreads third = loose(1, 1);
        third.set(3, 5);
        third.trip(0, 0, 5);
        due("it would be to be retired, but for the reason 3", third.ifInspected(0, 0, 23), 3);
        due("and is not unseen", third.unseen(), RopeThreads.NONE);
    }

    // ---- promises 23 and 24

    private static void dueShare(RopeThreads x, long counts, long broken) {
        long want = Double.doubleToLongBits((double) counts / broken);
        due("the bits of countedShare()", Double.doubleToLongBits(x.countedShare()), want);
        dueDigest(x, "");
    }

    private static void countedShare() {
        sentence("Returns how much of the broken threads is counted.");
        RopeThreads x = loose(1, 1);
        x.trip(0, 7, 1);
        long before = x.digest();
        dueShare(x, 0, 48);
        due("digest behind it", x.digest(), before);

        sentence("Returns the sum of all counts of all ropes, as a double, divided by all their broken threads;");
        x.inspect(1, 0, 0);
        dueShare(x, 1, 48);
        x.inspect(0, 0, 23);
        dueShare(x, 25, 48);
        x.inspect(1, 1, 22);
        dueShare(x, 47, 48);
        x.inspect(1, 23, 23);
        dueShare(x, 48, 48);
        x.trip(0, 0, 9);
        dueShare(x, 48, 48 + 54);
        x.swap(0, 1);
        dueShare(x, 24, 24 + 27);
        x.cut(1);
        dueShare(x, 1, 1);
        RopeThreads many = loose(1, 1, 1, 1, 1);
        many.trip(0, 0, 1);
        many.inspect(4, 0, 0);
        trips(many, 0, 7, 20000);
        dueShare(many, 1, 5 * (24 * many.count(4) - 21));

        sentence("1.0 if these are 0.");
        dueShare(new RopeThreads(), 1, 1);
        RopeThreads bent = loose(5, 5);
        dueShare(bent, 1, 1);
        bent.trip(0, 7, 4);
        bent.inspect(0, 0, 23);
        dueShare(bent, 1, 1);
        bent.trip(7, 7, 1);
        dueShare(bent, 0, 6);
    }

    private static void digest() {
        sentence("Computes a hash of the whole state.");
        RopeThreads x = loose(3, 4);
        long first = x.digest();
        due("digest() again", x.digest(), first);
        x.trip(0, 0, 1);
        due("the digest is another", x.digest() == first ? 1 : 0, 0);

        sentence("The hash starts at 2677.");
        long hash = 2677;
        for (long value : new long[] {0, 0, 0, 0, 0, 0, 0, 0, 0, 4, 8, 20, 5, 3, -1, 0x3FF0000000000000L, 0}) {
            hash = hash * 31 + value;
        }
        due("the digest of a new object", new RopeThreads().digest(), hash);

        sentence("For each value v of the following list, in order, the hash becomes 31 * hash + v, in long arithmetic"
            + " with overflow.");
        RopeThreads five = loose(1, 2, 3, 4, 5);
        five.trip(0, 7, 90);
        five.inspect(2, 3, 21);
        dueDigest(five, "");

        sentence("The values are: count(0) to count(8);");
        RopeThreads counts = loose(1, 2);
        counts.pass(5);
        counts.trip(0, 7, 3);
        counts.inspect(0, 0, 6);
        counts.swap(1, 9);
        counts.set(4, 1);
        for (int left = 6; left > 0; left--) {
            dueDigest(counts, "");
            counts.undo();
        }
        dueDigest(counts, "");

        sentence("the settings 0 to 4;");
        for (int setting = 0; setting <= 4; setting++) {
            RopeThreads set = new RopeThreads();
            long was = set.digest();
            set.set(setting, 1);
            set.undo();
            due("the digest behind undo()", set.digest(), was);
            set.set(setting, 2);
            dueDigest(set, "");
        }

        sentence("for each rope its properties 0 to 9,");
        RopeThreads ropes = new RopeThreads();
        for (int i = 0; i < 5; i++) {
            ropes.hang(11 * i + 1);
            ropes.pass(1);
            dueDigest(ropes, "");
        }

        digestOfSections();
        digestOfTheRest();
    }

    private static void digestOfSections() {
        sentence("for each of its sections the properties 0 to 4,");
        for (int section = 0; section < 24; section += 23) {
            RopeThreads x = loose(2, 1);
            x.trip(0, 7, 5);
            x.pass(2);
            x.inspect(1, section, section);
            x.trip(0, 7, 1);
            x.inspect(1, section, section);
            dueDigest(x, "");
        }

        sentence("then window by window its sum and its true sum,");
        RopeThreads windows = loose(3, 2);
        windows.trip(1, 6, 17);
        windows.inspect(0, 7, 12);
        for (int size = 1; size <= 12; size++) {
            windows.set(0, size);
            dueDigest(windows, "");
        }

        sentence("ifInspected of the sections 0 to 23,");
        for (int floor = 0; floor < 8; floor += 7) {
            RopeThreads all = withRopes(1, 1);
            all.set(0, 3);
            all.set(1, 9);
            all.trip(floor, floor, 3);
            due("ifInspected", all.ifInspected(0, 0, 23), 1);
            dueDigest(all, "");
        }

        sentence("bestInspection of 5,");
        RopeThreads best = loose(1, 1);
        best.trip(0, 7, 1);
        best.inspect(0, 0, 18);
        due("bestInspection", best.bestInspection(0, 5), 19);
        dueDigest(best, "");

        sentence("and tripsLeft;");
        RopeThreads left = withRopes(99, 1);
        left.set(0, 1);
        left.set(1, 99);
        due("tripsLeft", left.tripsLeft(0), 9801);
        dueDigest(left, "");
    }

    private static void digestOfTheRest() {
        sentence("unseen;");
        RopeThreads unseen = withRopes(9, 9, 9, 9, 1);
        dueDigest(unseen, "");
        unseen.trip(0, 7, 2);
        due("unseen", unseen.unseen(), 4);
        dueDigest(unseen, "");

        sentence("the bits of countedShare (as Double.doubleToLongBits);");
        RopeThreads shares = loose(1, 1);
        shares.trip(0, 7, 1);
        for (int section = 0; section < 24; section++) {
            dueShare(shares, section, 48);
            shares.inspect(0, section, section);
        }

        sentence("the length of the buffer and each of its character codes.");
        RopeThreads x = new RopeThreads();
        dueDigest(x, "");
        StringBuilder text = new StringBuilder();
        for (int i = 0; i < 60; i++) {
            char code = (char) (i == 0 ? 126 : i == 59 ? 33 : 33 + i);
            x.append(code);
            text.append(code);
            dueDigest(x, text.toString());
        }
        x.clearBuffer();
        dueDigest(x, "");

        sentence("Returns the hash.");
        due("the digest", x.digest(), new RopeThreads().digest());
    }
}
