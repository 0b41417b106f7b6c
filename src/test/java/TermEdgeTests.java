/** For each sentence of 'Terms' to 'Exceptions' of ../shared/DOC.md a test of its own, at the edges that it names. */
public final class TermEdgeTests extends Sentences {
    private static final Step FIVE_WORN_ROPES = TermEdgeTests::fiveWornRopes;
    private static final Step NO_ROPES = x -> type(x, "0-7*2");

    public static void main(String[] args) {
        below("Terms");
        numbers();
        floorsAndRopes();
        wear();
        months();
        inspections();
        windows();
        dueAllQuoted("Terms");

        below("Rules");
        firstReason();
        reasonOfWindows();
        reasonOfRopes();
        reasonOfGrowth();
        reasonOfMonths();
        canRun();
        dueAllQuoted("Rules");

        below("Settings");
        settings();
        dueAllQuoted("Settings");

        below("Input text");
        bufferLength();
        partsOfText();
        floorsOfText();
        timesOfText();
        leftToRight();
        syntaxErrors();
        dueAllQuoted("Input text");

        below("Undo");
        savingCalls();
        savingWithoutChange();
        allIsSaved();
        sixSaved();
        dueAllQuoted("Undo");

        below("Exceptions");
        refusedCalls();
        refusedCallsWithoutRopes();
        refusedCallsAtLimits();
        firstException();
        none();
        looks();
        dueAllQuoted("Exceptions");
        finish("each sentence of the terms holds");
    }

    // ---- terms

    private static void numbers() {
        sentence("All numbers are integers, but for a share; divisions are rounded down.");
        for (int quality : new int[] {1, 2, 7, 50, 99}) {
            int[][] dues = {{quality - 1, 0}, {quality, 1}, {2 * quality - 1, 1}, {2 * quality, 2}};
            for (int[] due : dues) {
                RopeThreads x = loose(99, quality);
                trips(x, 0, 0, due[0]);
                due(due[0] + " bends by " + quality, x.section(1, 0, 1), due[1]);
                due("all of them", x.rope(1, 3), 3 * due[1]);
            }
        }
        RopeThreads x = loose(1, 99);
        x.trip(0, 0, 1);
        x.inspect(0, 0, 0);
        if (x.countedShare() != 1.0 / 3.0) {
            fault("a share is rounded down to " + x.countedShare());
        }
    }

    private static void floorsAndRopes() {
        sentence("Ropes, wear There are 8 floors, numbered from 0.");
        RopeThreads floors = loose(99, 99);
        for (int floor = 0; floor <= 7; floor++) {
            due("a trip at floor " + floor, floors.trip(floor, floor, 1), floor + 1);
        }
        refusedBeyond(floors, INDEX, 0, 7, "trip from", floor -> floors.trip(floor, 0, 1));
        refusedBeyond(floors, INDEX, 0, 7, "trip to", floor -> floors.trip(7, floor, 1));

        sentence("There are at most 5 ropes, numbered from 0 in the order in which they were hung");
        RopeThreads five = new RopeThreads();
        for (int i = 0; i < 5; i++) {
            refused(five, "a look at rope " + i, INDEX, fiveLook(five, i));
            due("hang", five.hang(11 + i), i);
        }
        dueQualities(five, 11, 12, 13, 14, 15);
        refused(five, "the sixth rope", STATE, () -> five.hang(16));

        sentence("(if one is cut, those behind it have numbers that are less by 1;");
        int[][] left = {{12, 13, 14, 15}, {11, 13, 14, 15}, {11, 12, 14, 15}, {11, 12, 13, 15}, {11, 12, 13, 14}};
        for (int place = 0; place < 5; place++) {
            RopeThreads x = withRopes(11, 12, 13, 14, 15);
            x.cut(place);
            dueQualities(x, left[place]);
        }

        sentence("a new rope in place of an old one has its number).");
        int[][] then = {{77, 12, 13, 14, 15}, {11, 77, 13, 14, 15}, {11, 12, 77, 14, 15}, {11, 12, 13, 77, 15},
            {11, 12, 13, 14, 77}};
        for (int place = 0; place < 5; place++) {
            RopeThreads x = withRopes(11, 12, 13, 14, 15);
            x.swap(place, 77);
            dueQualities(x, then[place]);
        }

        sentence("A rope has 24 sections, numbered from 0, and a quality, 1 to 99.");
        RopeThreads two = withRopes(1, 99);
        dueQualities(two, 1, 99);
        due("the first section", two.section(0, 0, 0), 0);
        due("the last section", two.section(0, 23, 0), 0);
        refusedBeyond(two, INDEX, 0, 23, "section", section -> two.section(0, section, 0));
        refusedBeyond(two, ARGUMENT, 1, 99, "hang", two::hang);
        refusedBeyond(two, ARGUMENT, 1, 99, "swap", quality -> two.swap(1, quality));
    }

    private static Call fiveLook(RopeThreads x, int rope) {
        return () -> x.rope(rope, 0);
    }

    private static void dueQualities(RopeThreads x, int... qualities) {
        due("ropes", x.count(1), qualities.length);
        for (int i = 0; i < qualities.length; i++) {
            due("the quality of rope " + i, x.rope(i, 0), qualities[i]);
        }
        refused(x, "a look behind the last rope", INDEX, () -> x.rope(qualities.length, 0));
    }

    private static void wear() {
        sentence("A trip between two floors bends, of each rope, the sections from 3 times the lower floor to 3 times"
            + " the upper floor plus 2.");
        for (int from = 0; from <= 7; from++) {
            for (int to = 0; to <= 7; to++) {
                RopeThreads x = withRopes(5, 6, 7, 8, 9);
                x.trip(from, to, 2);
                for (int place = 0; place < 5 * 24; place++) {
                    int section = place % 24;
                    boolean bent = section >= 3 * Math.min(from, to) && section <= 3 * Math.max(from, to) + 2;
                    due("section " + section + " behind trip(" + from + ", " + to + ", 2)",
                        x.section(place / 24, section, 0), bent ? 2 : 0);
                }
            }
        }

        sentence("The broken threads of a section are the number of times it was bent since the rope was hung, divided"
            + " by the quality.");
        RopeThreads x = loose(3, 3);
        x.trip(0, 7, 7);
        x.hang(3);
        x.trip(0, 7, 2);
        due("broken threads of a rope of 9 bends", x.section(0, 0, 1), 3);
        due("broken threads of a rope that was hung later, of 2 bends", x.section(2, 0, 1), 0);
        x.trip(0, 0, 1);
        due("broken threads of that rope, of 3 bends", x.section(2, 0, 1), 1);
        due("elsewhere", x.section(2, 3, 1), 0);
        x.swap(0, 3);
        due("broken threads behind a swap", x.section(0, 0, 1), 0);
        x.trip(7, 7, 3);
        due("broken threads of the swapped rope, of 3 bends", x.section(0, 23, 1), 1);
    }

    private static void months() {
        sentence("There is a number of the month, at first 0.");
        RopeThreads x = new RopeThreads();
        due("the month", x.count(0), 0);
        due("pass", x.pass(1), 0);
        due("the month behind one", x.count(0), 1);

        sentence("A rope knows the month in which it was hung.");
        RopeThreads y = withRopes(5, 5);
        y.pass(24);
        y.hang(5);
        y.pass(1);
        due("a rope of the month 0", y.rope(0, 1), 0);
        due("a rope of the month 24", y.rope(2, 1), 24);
        y.swap(1, 5);
        due("a rope that was swapped in the month 25", y.rope(1, 1), 25);
        y.cut(0);
        due("that rope behind a cut", y.rope(0, 1), 25);
        due("the rope of the month 24 behind a cut", y.rope(1, 1), 24);
    }

    private static void inspections() {
        sentence("Inspections, windows For each section there is a count: the broken threads at its latest inspection,"
            + " at first 0;");
        RopeThreads counts = loose(1, 1);
        counts.trip(0, 7, 9);
        dueEachSection(counts, 2, 0);
        counts.inspect(1, 0, 23);
        counts.trip(0, 7, 1);
        dueEachSection(counts, 2, 9);
        dueEachSection(counts, 1, 10);

        sentence("and the count ahead of that, at first 0;");
        RopeThreads ahead = loose(1, 1);
        ahead.trip(0, 7, 9);
        dueEachSection(ahead, 3, 0);
        ahead.inspect(1, 0, 23);
        dueEachSection(ahead, 3, 0);
        ahead.trip(0, 7, 1);
        ahead.inspect(1, 0, 23);
        dueEachSection(ahead, 3, 9);

        sentence("and the month of the latest inspection, at first the month in which the rope was hung.");
        RopeThreads month = withRopes(1);
        month.pass(7);
        month.hang(1);
        dueEachSection(month, 4, 7);
        month.pass(2);
        dueEachSection(month, 4, 7);
        month.inspect(1, 0, 23);
        dueEachSection(month, 4, 9);
        month.pass(1);
        month.swap(1, 1);
        dueEachSection(month, 4, 10);

        sentence("When a section is inspected, its count becomes the one ahead, its broken threads become the count,"
            + " and the month is noted.");
        RopeThreads x = loose(1, 1);
        x.trip(0, 7, 4);
        x.pass(1);
        x.inspect(0, 6, 9);
        dueSection(x, 6, 4, 0, 1);
        x.trip(0, 7, 3);
        x.pass(1);
        x.inspect(0, 6, 9);
        dueSection(x, 6, 7, 4, 2);
        dueSection(x, 9, 7, 4, 2);
        x.inspect(0, 6, 9);
        dueSection(x, 6, 7, 7, 2);
        dueSection(x, 9, 7, 7, 2);
        dueSection(x, 5, 0, 0, 0);
        dueSection(x, 10, 0, 0, 0);
    }

    private static void dueEachSection(RopeThreads x, int what, int want) {
        for (int section = 0; section < 24; section++) {
            due("section(1, " + section + ", " + what + ")", x.section(1, section, what), want);
        }
    }

    private static void dueSection(RopeThreads x, int section, int count, int ahead, int month) {
        due("the count of " + section, x.section(0, section, 2), count);
        due("the count ahead of " + section, x.section(0, section, 3), ahead);
        due("the month of " + section, x.section(0, section, 4), month);
    }

    private static void windows() {
        sentence("A window is setting 0 sections side by side; its number is that of its first section.");
        for (int section : new int[] {0, 11, 12, 23}) {
            RopeThreads x = loose(1, 1);
            x.trip(0, 7, 1);
            x.inspect(0, section, section);
            for (int size = 1; size <= 12; size++) {
                x.set(0, size);
                for (int window = 0; window <= 24 - size; window++) {
                    boolean within = window <= section && section < window + size;
                    due("window " + window + " of " + size, x.window(0, window, 0), within ? 1 : 0);
                }
                refusedBeyond(x, INDEX, 0, 24 - size, "window", window -> x.window(0, window, 0));
            }
        }

        sentence("Its sum is the sum of the counts of its sections; its true sum that of their broken threads.");
        RopeThreads x = loose(2, 1);
        x.trip(3, 3, 5);
        x.inspect(0, 10, 10);
        x.trip(3, 3, 1);
        due("a sum", x.window(0, 8, 0), 2);
        due("a true sum", x.window(0, 8, 1), 9);
        due("the sum beside it", x.window(0, 11, 0), 0);
        due("the true sum beside it", x.window(0, 11, 1), 3);
    }

    // ---- rules

    private static void dueReason(RopeThreads x, String when, int want) {
        due("the reason, " + when, x.rope(0, 7), want);
    }

    private static void firstReason() {
        sentence("The reasons for which a rope is to be retired, the first one that applies:");
        RopeThreads x = withRopes(1, 1);
        dueReason(x, "new", 0);
        x.trip(0, 7, 5);
        x.inspect(0, 0, 22);
        x.pass(4);
        dueReason(x, "1 to 4", 1);
        x.set(1, 21);
        dueReason(x, "2 to 4", 2);
        x.set(2, 116);
        dueReason(x, "3 and 4", 3);
        x.set(3, 6);
        dueReason(x, "4", 4);
        x.set(4, 4);
        dueReason(x, "none", 0);
    }

    private static void reasonOfWindows() {
        sentence("1: the sum of some window is at least setting 1;");
        for (int limit : new int[] {1, 8, 99}) {
            for (int section : new int[] {0, 23}) {
                RopeThreads x = loose(1, 1);
                x.set(1, limit);
                trips(x, section / 3, section / 3, limit - 1);
                x.inspect(0, section, section);
                dueReason(x, "a sum below the limit", 0);
                x.trip(section / 3, section / 3, 1);
                dueReason(x, "a true sum at the limit", 0);
                x.inspect(0, section, section);
                dueReason(x, "a sum at the limit " + limit, 1);
                RopeThreads above = loose(1, 1);
                above.set(1, limit);
                trips(above, section / 3, section / 3, limit + 1);
                above.inspect(0, section, section);
                dueReason(above, "a sum above the limit", 1);
            }
        }
        RopeThreads x = loose(1, 1);
        x.set(1, 8);
        x.trip(0, 1, 2);
        x.inspect(0, 0, 2);
        x.inspect(0, 4, 4);
        dueReason(x, "eight threads in five sections", 0);
        x.set(0, 5);
        dueReason(x, "eight threads in a window of five sections", 1);
        x.set(0, 4);
        x.inspect(0, 3, 3);
        dueReason(x, "eight threads in four sections", 1);
    }

    private static void reasonOfRopes() {
        sentence("2: the sum of all counts is at least setting 2;");
        RopeThreads x = loose(1, 1);
        x.set(0, 1);
        x.set(2, 1);
        x.trip(0, 7, 1);
        dueReason(x, "no counts", 0);
        x.inspect(0, 23, 23);
        dueReason(x, "one count at the limit 1", 2);
        x.set(2, 20);
        x.inspect(0, 5, 22);
        dueReason(x, "19 below the limit 20", 0);
        x.inspect(0, 0, 0);
        dueReason(x, "20 at the limit 20", 2);
        x.set(2, 999);
        x.trip(0, 7, 40);
        x.inspect(0, 0, 23);
        dueReason(x, "984 below the limit 999", 0);
        x.trip(0, 4, 1);
        x.inspect(0, 0, 13);
        dueReason(x, "998 below the limit 999", 0);
        x.inspect(0, 14, 14);
        dueReason(x, "999 at the limit 999", 2);
    }

    private static void reasonOfGrowth() {
        sentence("3: the count of some section is more than the one ahead of it by at least setting 3;");
        for (int limit : new int[] {1, 5, 98}) {
            for (int section : new int[] {0, 23}) {
                RopeThreads x = loose(1, 1);
                x.set(0, 1);
                x.set(3, limit);
                trips(x, section / 3, section / 3, limit - 1);
                x.inspect(0, section, section);
                dueReason(x, "a first growth below the limit", 0);
                x.inspect(0, section, section);
                x.swap(0, 1);
                trips(x, section / 3, section / 3, limit);
                dueReason(x, "a growth unseen", 0);
                x.inspect(0, section, section);
                dueReason(x, "a first growth at the limit " + limit, 3);
                x.inspect(0, section, section);
                dueReason(x, "no growth", 0);
            }
        }
        RopeThreads x = loose(1, 1);
        x.set(3, 5);
        x.trip(0, 0, 4);
        x.inspect(0, 1, 1);
        x.trip(0, 0, 4);
        x.inspect(0, 1, 1);
        dueReason(x, "a second growth below the limit", 0);
        x.trip(0, 0, 5);
        x.inspect(0, 1, 1);
        dueReason(x, "a third growth at the limit", 3);
    }

    private static void reasonOfMonths() {
        sentence("4: the month is more than setting 4 above the month of the latest inspection of some section.");
        for (int limit : new int[] {1, 3, 60}) {
            for (int section : new int[] {0, 23}) {
                RopeThreads x = loose(1);
                x.set(4, limit);
                months(x, limit);
                dueReason(x, "the month at the limit " + limit, 0);
                x.pass(1);
                dueReason(x, "the month above the limit " + limit, 4);
                x.inspect(0, section == 0 ? 1 : 0, section == 0 ? 23 : 22);
                dueReason(x, "all inspected but section " + section, 4);
                x.inspect(0, section, section);
                dueReason(x, "all inspected", 0);
                months(x, limit);
                dueReason(x, "the month at the limit again", 0);
                x.pass(1);
                dueReason(x, "the month above the limit again", 4);
            }
        }
    }

    private static void canRun() {
        sentence("The elevator can run if there are at least 2 ropes, and none is to be retired.");
        RopeThreads x = new RopeThreads();
        due("no ropes", x.count(3), 0);
        refused(x, "a trip without ropes", STATE, () -> x.trip(0, 0, 1));
        x.hang(9);
        due("one rope", x.count(3), 0);
        refused(x, "a trip with one rope", STATE, () -> x.trip(0, 0, 1));
        x.hang(9);
        due("two ropes", x.count(3), 1);
        due("a trip with two ropes", x.trip(0, 0, 1), 1);
        for (int retired = 0; retired < 5; retired++) {
            RopeThreads y = withRopes(1, 1, 1, 1, 1);
            due("five ropes", y.count(3), 1);
            y.trip(0, 0, 8);
            y.inspect(retired, 0, 0);
            due("rope " + retired + " of five is to be retired", y.count(3), 0);
            refused(y, "a trip with that", STATE, () -> y.trip(0, 0, 1));
            y.cut(retired);
            due("that rope is cut", y.count(3), 1);
        }
    }

    // ---- settings

    private static void settings() {
        sentence("0: the sections of a window, 1 to 12, at first 4;");
        dueSetting(0, 4, 12);
        sentence("1: the limit of a window, 1 to 99, at first 8;");
        dueSetting(1, 8, 99);
        sentence("2: the limit of a rope, 1 to 999, at first 20;");
        dueSetting(2, 20, 999);
        sentence("3: the limit of growth, 1 to 99, at first 5;");
        dueSetting(3, 5, 99);
        sentence("4: months between inspections, 1 to 60, at first 3.");
        dueSetting(4, 3, 60);
    }

    private static void dueSetting(int setting, int first, int most) {
        RopeThreads x = new RopeThreads();
        due("at first", x.setting(setting), first);
        due("set to the least", x.set(setting, 1), first);
        refusedBeyond(x, ARGUMENT, 1, most, "set", value -> x.set(setting, value));
        due("set to the greatest", x.set(setting, most), 1);
        refusedBeyond(x, ARGUMENT, 1, most, "set", value -> x.set(setting, value));
        due("the greatest", x.setting(setting), most);
        for (int other = 0; other < 5; other++) {
            if (other != setting) {
                due("setting " + other, x.setting(other), new RopeThreads().setting(other));
            }
        }
    }

    // ---- input text

    private static void bufferLength() {
        sentence("The buffer has at most 60 characters.");
        RopeThreads x = new RopeThreads();
        for (int length = 1; length <= 60; length++) {
            due("append", x.append(126), length);
        }
        refused(x, "the character 61", STATE, () -> x.append(126));
        due("the length", x.clearBuffer(), 60);
        due("append behind clearBuffer()", x.append(33), 1);
    }

    /** The text runs and makes so many trips. */
    private static void dueTrips(String text, int want) {
        RopeThreads x = loose(99, 99);
        type(x, text);
        due("firstError() of " + text, x.firstError(), text.length());
        due("run() of " + text, x.run(), want);
    }

    /** The text is no complete trips; its first error stands at this place, or there is none yet. */
    private static void dueNoTrips(String text, int error) {
        RopeThreads x = loose(99, 99);
        type(x, text);
        due("firstError() of " + text, x.firstError(), error);
        refused(x, "run() of " + text, ARGUMENT, x::run);
    }

    private static void partsOfText() {
        sentence("Trips as a text are one or more parts with \";\" between them,");
        dueTrips("0-0", 1);
        dueTrips("0-0;1-1", 2);
        dueTrips(repeated("0-0;", 14) + "7-7", 15);
        dueTrips(repeated("0-0*9;", 9) + "7-7*99", 180);
        dueNoTrips("", 0);
        dueNoTrips(";", 0);
        dueNoTrips(";0-0", 0);
        dueNoTrips("0-0;", 4);
        dueNoTrips("0-0;;0-0", 4);
        dueNoTrips("0-0,0-0", 3);
        dueNoTrips("0-00-0", 3);
        dueNoTrips(repeated("0-0;", 15), 60);
    }

    private static void floorsOfText() {
        sentence("each a floor, 0 to 7, \"-\", a floor, 0 to 7 (perhaps the same one),");
        for (int from = 0; from <= 7; from++) {
            for (int to = 0; to <= 7; to++) {
                RopeThreads x = loose(99, 99);
                RopeThreads tripped = loose(99, 99);
                type(x, from + "-" + to);
                x.run();
                tripped.trip(from, to, 1);
                dueSame("run() of " + from + "-" + to, x, tripped);
            }
        }
        dueNoTrips("8-0", 0);
        dueNoTrips("/-0", 0);
        dueNoTrips("0-8", 2);
        dueNoTrips("0-/", 2);
        dueNoTrips("-0", 0);
        dueNoTrips("0-", 2);
        dueNoTrips("0", 1);
        dueNoTrips("0_0", 1);
        dueNoTrips("0--0", 2);
        dueNoTrips("00-0", 1);
        dueNoTrips("0-00", 3);
    }

    private static void timesOfText() {
        sentence("and perhaps \"*\" and how often, 2 to 99, without a leading zero.");
        for (int times = 2; times <= 99; times++) {
            dueTrips("3-4*" + times, times);
        }
        dueTrips("3-4", 1);
        dueNoTrips("3-4*", 4);
        dueNoTrips("3-4*0", 4);
        dueNoTrips("3-4*00", 4);
        dueNoTrips("3-4*02", 4);
        dueNoTrips("3-4*1", 5);
        dueNoTrips("3-4*1;0-0", 5);
        dueNoTrips("3-4*100", 6);
        dueNoTrips("3-4*990", 6);
        dueNoTrips("3-4**2", 4);
        dueNoTrips("3-4*2*2", 5);
        dueNoTrips("3-4*-2", 4);
        dueNoTrips("3*2-4", 1);
    }

    private static void leftToRight() {
        sentence("The buffer is read from left to right;");
        dueNoTrips("9-9", 0);
        dueNoTrips("0-9;9-0", 2);
        dueNoTrips("0-0;9-0;9", 4);
        RopeThreads x = new RopeThreads();
        for (int length = 1; length <= 60; length++) {
            x.append(length <= 7 ? "0-7*100".charAt(length - 1) : 'x');
            due("firstError() of " + length + " characters", x.firstError(), Math.min(length, 6));
        }
    }

    private static void syntaxErrors() {
        sentence("a character is a syntax error if no trips as a text, of any length, begin with the characters before"
            + " it and this character.");
        String[][] next = {{"", "01234567"}, {"7", "-"}, {"7-", "01234567"}, {"7-0", "*;"}, {"7-0*", "123456789"},
            {"7-0*1", "0123456789"}, {"7-0*2", "0123456789;"}, {"7-0*9", "0123456789;"}, {"7-0*10", ";"},
            {"7-0*99", ";"}, {"7-0;", "01234567"}, {"7-0*2;", "01234567"}, {"7-0*19;", "01234567"}, {"7-0;0", "-"},
            {"7-0*31;0-", "01234567"}, {"7-0*31;0-0", "*;"}, {"7-0*31;0-0*", "123456789"},
            {"7-0*31;0-0*1", "0123456789"}, {"7-0*31;0-0*8", "0123456789;"}, {"7-0*31;0-0*80", ";"}};
        for (String[] one : next) {
            for (int code = 33; code <= 126; code++) {
                RopeThreads x = new RopeThreads();
                type(x, one[0]);
                x.append(code);
                int good = one[1].indexOf(code) >= 0 ? 1 : 0;
                due("firstError() of " + one[0] + (char) code, x.firstError(), one[0].length() + good);
            }
        }
        // Trips as a text begin with each of these, but none that the buffer could hold.
        for (String full : new String[] {repeated("0-0;", 14) + "0-0*", repeated("0-0;", 15),
            repeated("0-0;", 13) + "0-0*44;0", repeated("0-0;", 13) + "0-0*4;0-",
            repeated("0-0;", 12) + "0-0*44;0-0*1"}) {
            dueNoTrips(full, 60);
        }
    }

    // ---- undo

    private static void fiveWornRopes(RopeThreads x) {
        x.hang(3);
        x.hang(99);
        x.hang(1);
        x.hang(7);
        x.set(1, 90);
        x.set(2, 900);
        x.set(3, 90);
        x.trip(2, 5, 33);
        x.pass(2);
        x.hang(2);
        x.trip(7, 0, 5);
        x.inspect(2, 4, 19);
        x.inspect(2, 6, 23);
        x.inspect(0, 0, 23);
        x.swap(1, 50);
        type(x, "0-7*2;3-3");
    }

    private static void savingCalls() {
        sentence("Each method that is marked \"undoable\" and does not throw an exception saves the state from before"
            + " it");
        RopeThreads x = new RopeThreads();
        x.hang(3);
        x.hang(40);
        x.trip(1, 6, 9);
        type(x, "0-7*2;3-3");
        dueUndone(x, "hang", () -> x.hang(1));
        dueUndone(x, "cut", () -> x.cut(0));
        dueUndone(x, "swap", () -> x.swap(0, 1));
        dueUndone(x, "inspect", () -> x.inspect(0, 0, 23));
        dueUndone(x, "set", () -> x.set(0, 12));
        dueUndone(x, "trip", () -> x.trip(0, 0, 1));
        dueUndone(x, "pass", () -> x.pass(1));
        int saved = x.count(8);
        int trips = x.count(4);
        due("run()", x.run(), trips + 3);
        due("saved states behind run()", x.count(8), saved + 1);
        x.undo();
        due("trips behind undo() of run()", x.count(4), trips);
        x.append('x');
        refused(x, "run()", ARGUMENT, x::run);
        due("saved states behind a run() that threw", x.count(8), saved);
        x.clearBuffer();
        x.firstError();
        due("saved states behind calls that are not undoable", x.count(8), saved);
        x.undo();
        due("saved states behind undo()", x.count(8), saved - 1);
    }

    private static void savingWithoutChange() {
        sentence("(also if it changes nothing):");
        RopeThreads x = withRopes(5);
        due("set to what it is", x.set(0, 4), 4);
        due("saved states", x.count(8), 2);
        x.inspect(0, 3, 3);
        due("an inspection of no threads in the month 0", x.inspect(0, 3, 3), 0);
        due("saved states", x.count(8), 4);
        due("undo()", x.undo(), 3);
        due("undo()", x.undo(), 2);
        due("undo()", x.undo(), 1);
        due("ropes", x.count(1), 1);
        due("undo()", x.undo(), 0);
        due("ropes", x.count(1), 0);
    }

    private static void allIsSaved() {
        sentence("all, also what is counted so far, but the buffer and the saved states.");
        RopeThreads x = withRopes(1, 2);
        int[] before = new int[8];
        for (int what = 0; what < 8; what++) {
            before[what] = x.count(what);
        }
        x.hang(3);
        x.trip(0, 7, 3);
        x.inspect(0, 0, 2);
        x.swap(1, 9);
        x.pass(3);
        x.set(4, 1);
        type(x, "0-7");
        due("months", x.count(0), 3);
        due("trips so far", x.count(4), 3);
        due("sections inspected so far", x.count(5), 3);
        due("swaps so far", x.count(6), 1);
        for (int left = 5; left >= 0; left--) {
            due("undo()", x.undo(), left);
            due("saved states", x.count(8), left);
        }
        for (int what = 0; what < 8; what++) {
            due("count(" + what + ")", x.count(what), before[what]);
        }
        due("setting 4", x.setting(4), 3);
        due("the quality of rope 1", x.rope(0, 0), 1);
        due("bends", x.section(0, 0, 0), 0);
        due("the buffer stays", x.clearBuffer(), 3);
    }

    private static void sixSaved() {
        sentence("At most 6 states are saved; the oldest one is dropped first.");
        RopeThreads x = new RopeThreads();
        for (int value = 1; value <= 7; value++) {
            x.set(2, value);
            due("saved states", x.count(8), Math.min(value, 6));
        }
        for (int left = 5; left >= 0; left--) {
            due("undo()", x.undo(), left);
            due("the setting behind it", x.setting(2), left + 1);
        }
        refused(x, "undo() of a state that was dropped", STATE, x::undo);
        // The places of the saved states are used again: so many calls between so many undos go round them all.
        for (int undos = 0; undos <= 6; undos++) {
            for (int calls = 6; calls <= 20; calls++) {
                dueSavedAnew(undos, calls);
            }
        }
    }

    private static void dueSavedAnew(int undos, int calls) {
        RopeThreads x = new RopeThreads();
        for (int i = 0; i < calls; i++) {
            x.set(2, 100 + i);
        }
        for (int i = 0; i < undos; i++) {
            x.undo();
        }
        int value = calls > undos ? 100 + calls - undos - 1 : 20;
        due("the setting behind undos", x.setting(2), value);
        for (int i = 0; i < 7; i++) {
            due("set behind undos", x.set(2, 200 + i), i == 0 ? value : 200 + i - 1);
        }
        for (int left = 5; left >= 0; left--) {
            due("undo()", x.undo(), left);
            due("the setting", x.setting(2), 200 + left);
        }
        refused(x, "undo() behind the last one", STATE, x::undo);
    }

    // ---- exceptions

    private static void refusedCalls() {
        sentence("A call that throws an exception changes nothing.");
        Step made = FIVE_WORN_ROPES;
        refusedWhole(made, "hang(0)", ARGUMENT, x -> x.hang(0));
        refusedWhole(made, "hang(100)", ARGUMENT, x -> x.hang(100));
        refusedWhole(made, "hang(1)", STATE, x -> x.hang(1));
        refusedWhole(made, "cut(-1)", INDEX, x -> x.cut(-1));
        refusedWhole(made, "cut(5)", INDEX, x -> x.cut(5));
        refusedWhole(made, "swap(5, 1)", INDEX, x -> x.swap(5, 1));
        refusedWhole(made, "swap(2, 100)", ARGUMENT, x -> x.swap(2, 100));
        refusedWhole(made, "inspect(5, 0, 23)", INDEX, x -> x.inspect(5, 0, 23));
        refusedWhole(made, "inspect(2, 0, 24)", INDEX, x -> x.inspect(2, 0, 24));
        refusedWhole(made, "inspect(2, -1, 5)", INDEX, x -> x.inspect(2, -1, 5));
        refusedWhole(made, "inspect(2, 5, 4)", ARGUMENT, x -> x.inspect(2, 5, 4));
        refusedWhole(made, "set(5, 1)", INDEX, x -> x.set(5, 1));
        refusedWhole(made, "set(0, 13)", ARGUMENT, x -> x.set(0, 13));
        refusedWhole(made, "trip(0, 8, 1)", INDEX, x -> x.trip(0, 8, 1));
        refusedWhole(made, "trip(0, 7, 100)", ARGUMENT, x -> x.trip(0, 7, 100));
        refusedWhole(made, "pass(0)", ARGUMENT, x -> x.pass(0));
        refusedWhole(made, "pass(25)", ARGUMENT, x -> x.pass(25));
        refusedWhole(made, "append(32)", ARGUMENT, x -> x.append(32));
        refusedWhole(made, "append(127)", ARGUMENT, x -> x.append(127));
        refusedWhole(made, "rope(5, 0)", INDEX, x -> x.rope(5, 0));
        refusedWhole(made, "rope(4, 10)", ARGUMENT, x -> x.rope(4, 10));
        refusedWhole(made, "section(4, 24, 0)", INDEX, x -> x.section(4, 24, 0));
        refusedWhole(made, "section(4, 23, 5)", ARGUMENT, x -> x.section(4, 23, 5));
        refusedWhole(made, "window(4, 21, 0)", INDEX, x -> x.window(4, 21, 0));
        refusedWhole(made, "window(4, 20, 2)", ARGUMENT, x -> x.window(4, 20, 2));
        refusedWhole(made, "count(9)", ARGUMENT, x -> x.count(9));
        refusedWhole(made, "setting(5)", INDEX, x -> x.setting(5));
        refusedWhole(made, "ifInspected(4, 0, 24)", INDEX, x -> x.ifInspected(4, 0, 24));
        refusedWhole(made, "ifInspected(4, 1, 0)", ARGUMENT, x -> x.ifInspected(4, 1, 0));
        refusedWhole(made, "bestInspection(5, 5)", INDEX, x -> x.bestInspection(5, 5));
        refusedWhole(made, "bestInspection(4, 25)", ARGUMENT, x -> x.bestInspection(4, 25));
        refusedWhole(made, "tripsLeft(5)", INDEX, x -> x.tripsLeft(5));
    }

    private static void refusedCallsWithoutRopes() {
        refusedWhole(NO_ROPES, "cut(0)", INDEX, x -> x.cut(0));
        refusedWhole(NO_ROPES, "swap(0, 5)", INDEX, x -> x.swap(0, 5));
        refusedWhole(NO_ROPES, "inspect(0, 0, 0)", INDEX, x -> x.inspect(0, 0, 0));
        refusedWhole(NO_ROPES, "trip(0, 7, 1)", STATE, x -> x.trip(0, 7, 1));
        refusedWhole(NO_ROPES, "run()", STATE, RopeThreads::run);
        refusedWhole(NO_ROPES, "undo()", STATE, RopeThreads::undo);
        refusedWhole(NO_ROPES, "rope(0, 0)", INDEX, x -> x.rope(0, 0));
        refusedWhole(NO_ROPES, "section(0, 0, 0)", INDEX, x -> x.section(0, 0, 0));
        refusedWhole(NO_ROPES, "window(0, 0, 0)", INDEX, x -> x.window(0, 0, 0));
        refusedWhole(NO_ROPES, "ifInspected(0, 0, 0)", INDEX, x -> x.ifInspected(0, 0, 0));
        refusedWhole(NO_ROPES, "bestInspection(0, 1)", INDEX, x -> x.bestInspection(0, 1));
        refusedWhole(NO_ROPES, "tripsLeft(0)", INDEX, x -> x.tripsLeft(0));
    }

    private static void refusedCallsAtLimits() {
        Step retired = x -> {
            fiveWornRopes(x);
            x.set(1, 1);
        };
        refusedWhole(retired, "trip with ropes to be retired", STATE, x -> x.trip(0, 7, 1));
        refusedWhole(retired, "run() with ropes to be retired", STATE, RopeThreads::run);
        Step full = x -> {
            fiveWornRopes(x);
            type(x, repeated("0-7*2;", 10));
        };
        refusedWhole(full, "append to 60 characters", STATE, x -> x.append('1'));
        refusedWhole(full, "run() of 60 characters", ARGUMENT, RopeThreads::run);
        Step late = x -> {
            fiveWornRopes(x);
            months(x, 1990);
        };
        refusedWhole(late, "pass(9) from the month 1992", STATE, x -> x.pass(9));
    }

    private static void firstException() {
        sentence("If several exceptions apply, the one that is named first in the throws clause is thrown.");
        RopeThreads five = new RopeThreads();
        fiveWornRopes(five);
        refused(five, "hang(0) as the sixth", ARGUMENT, () -> five.hang(0));
        refused(five, "swap(5, 0)", INDEX, () -> five.swap(5, 0));
        refused(five, "inspect(5, 5, 4)", INDEX, () -> five.inspect(5, 5, 4));
        refused(five, "inspect(0, 24, 4)", INDEX, () -> five.inspect(0, 24, 4));
        refused(five, "inspect(0, 5, -1)", INDEX, () -> five.inspect(0, 5, -1));
        refused(five, "set(-1, 0)", INDEX, () -> five.set(-1, 0));
        refused(five, "trip(0, -1, 0)", INDEX, () -> five.trip(0, -1, 0));
        refused(five, "trip(8, 0, 100)", INDEX, () -> five.trip(8, 0, 100));
        refused(five, "rope(5, 10)", INDEX, () -> five.rope(5, 10));
        refused(five, "section(5, 0, 5)", INDEX, () -> five.section(5, 0, 5));
        refused(five, "section(0, 24, 5)", INDEX, () -> five.section(0, 24, 5));
        refused(five, "window(5, 0, 2)", INDEX, () -> five.window(5, 0, 2));
        refused(five, "window(0, 21, 2)", INDEX, () -> five.window(0, 21, 2));
        refused(five, "ifInspected(5, 5, 4)", INDEX, () -> five.ifInspected(5, 5, 4));
        refused(five, "ifInspected(0, 24, 4)", INDEX, () -> five.ifInspected(0, 24, 4));
        refused(five, "ifInspected(0, 5, -1)", INDEX, () -> five.ifInspected(0, 5, -1));
        refused(five, "bestInspection(5, 0)", INDEX, () -> five.bestInspection(5, 0));
        type(five, repeated("x", 60));
        refused(five, "append(127) to 60 characters", ARGUMENT, () -> five.append(127));

        RopeThreads none = new RopeThreads();
        refused(none, "trip(8, 0, 1) without ropes", INDEX, () -> none.trip(8, 0, 1));
        refused(none, "trip(8, 0, 0) without ropes", INDEX, () -> none.trip(8, 0, 0));
        refused(none, "trip(0, 0, 0) without ropes", ARGUMENT, () -> none.trip(0, 0, 0));
        refused(none, "run() of nothing without ropes", ARGUMENT, none::run);
        type(none, "0-7;");
        refused(none, "run() of half a text without ropes", ARGUMENT, none::run);
        months(none, 2000);
        refused(none, "pass(25) in the month 2000", ARGUMENT, () -> none.pass(25));
    }

    private static void none() {
        sentence("The constants: NONE = -1: There is nothing to return.");
        due("NONE", RopeThreads.NONE, -1);
        due("unseen() without ropes", new RopeThreads().unseen(), RopeThreads.NONE);
    }

    private static void looks() {
        noTest("Ahead of the calls hang, cut, swap, inspect, set the interface says: ---- ropes.");
        noTest("Ahead of the calls trip, pass the interface says: ---- running.");
        noTest("Ahead of the calls append, clearBuffer, firstError, run, undo the interface says: ---- texts.");

        sentence("Ahead of the calls rope, section, window, count, setting the interface says: ---- looks; nothing is"
            + " changed.");
        RopeThreads looked = new RopeThreads();
        RopeThreads untouched = new RopeThreads();
        fiveWornRopes(looked);
        fiveWornRopes(untouched);
        valuesOf(looked, "");
        dueSame("looks", looked, untouched);

        sentence("Ahead of the calls ifInspected, bestInspection, tripsLeft, unseen, countedShare, digest the interface"
            + " says: ---- what would be; nothing is changed.");
        RopeThreads supposed = new RopeThreads();
        RopeThreads plain = new RopeThreads();
        fiveWornRopes(supposed);
        fiveWornRopes(plain);
        for (int rope = 0; rope < 5; rope++) {
            for (int many = 1; many <= 24; many++) {
                supposed.ifInspected(rope, 24 - many, 23);
                supposed.ifInspected(rope, 0, many - 1);
                supposed.bestInspection(rope, many);
                supposed.tripsLeft(rope);
                supposed.unseen();
                supposed.countedShare();
                supposed.digest();
            }
        }
        dueSame("what would be", supposed, plain);
    }
}
