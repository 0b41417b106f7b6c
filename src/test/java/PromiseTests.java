import java.util.ArrayList;
import java.util.Arrays;
import java.util.List;

/** For each promise of ../shared/DOC.md: ordinary inputs, the edges that the document names, and wrong inputs. */
public final class PromiseTests extends Checks {
    private static final int[] OUTSIDE = {Integer.MIN_VALUE, -1, Integer.MAX_VALUE};

    public static void main(String[] args) {
        newObject();
        hang();
        cut();
        swap();
        inspect();
        set();
        trip();
        tripsAllowed();
        pass();
        append();
        clearBuffer();
        firstError();
        run();
        runRefused();
        undo();
        undoOfEachMethod();
        rope();
        eachWindow();
        reasons();
        section();
        window();
        count();
        setting();
        ifInspected();
        bestInspection();
        tripsLeft();
        unseen();
        countedShare();
        digest();
        finish("every promise holds");
    }

    // ---- promise 1

    private static void newObject() {
        about("1 a new object");
        due("NONE", RopeThreads.NONE, -1);
        RopeThreads x = new RopeThreads();
        for (int what = 0; what <= 8; what++) {
            due("count(" + what + ")", x.count(what), 0);
        }
        due("setting(0)", x.setting(0), 4);
        due("setting(1)", x.setting(1), 8);
        due("setting(2)", x.setting(2), 20);
        due("setting(3)", x.setting(3), 5);
        due("setting(4)", x.setting(4), 3);
        due("clearBuffer()", x.clearBuffer(), 0);
        due("firstError()", x.firstError(), 0);
        due("unseen()", x.unseen(), -1);
        refused(x, "rope(0, 0)", INDEX, () -> x.rope(0, 0));
        refused(x, "undo()", STATE, x::undo);
        RopeThreads other = new RopeThreads();
        other.hang(1);
        due("count(1) beside another object", x.count(1), 0);
    }

    // ---- promise 2

    private static void hang() {
        about("2 hang");
        RopeThreads x = new RopeThreads();
        for (int wrongOne : new int[] {0, 100, -1, Integer.MIN_VALUE, Integer.MAX_VALUE}) {
            refused(x, "hang(" + wrongOne + ")", ARGUMENT, () -> x.hang(wrongOne));
        }
        due("hang(1)", x.hang(1), 0);
        due("hang(99)", x.hang(99), 1);
        x.pass(2);
        due("hang(7)", x.hang(7), 2);
        due("its quality", x.rope(2, 0), 7);
        due("its month", x.rope(2, 1), 2);
        due("the month of its inspections", x.section(2, 23, 4), 2);
        due("the month of rope 0", x.rope(0, 1), 0);
        due("hang(7) again", x.hang(7), 3);
        due("hang(8)", x.hang(8), 4);
        due("saved states", x.count(8), 6);
        refused(x, "hang(5) as the sixth", STATE, () -> x.hang(5));
        refused(x, "hang(0) as the sixth", ARGUMENT, () -> x.hang(0));
        x.undo();
        due("ropes after undo", x.count(1), 4);
        due("hang(9) after undo", x.hang(9), 4);
    }

    // ---- promise 3

    private static void cut() {
        about("3 cut");
        RopeThreads x = loose(1, 2, 3);
        x.trip(0, 1, 6);
        x.pass(1);
        x.inspect(2, 0, 3);
        x.inspect(2, 0, 3);
        leaveRoom(x);
        long before = x.digest();
        due("cut(1)", x.cut(1), 2);
        due("the quality of rope 0", x.rope(0, 0), 1);
        due("the quality of rope 1", x.rope(1, 0), 3);
        due("the bends of rope 1", x.section(1, 5, 0), 6);
        due("the count of rope 1", x.section(1, 3, 2), 2);
        due("the inspection of rope 1", x.section(1, 3, 4), 1);
        refused(x, "cut(2)", INDEX, () -> x.cut(2));
        x.undo();
        due("digest after undo", x.digest(), before);
        due("cut(2), the last one", x.cut(2), 2);
        due("the quality of rope 1 behind that", x.rope(1, 0), 2);
        due("cut(0)", x.cut(0), 1);
        due("the quality of rope 0 behind that", x.rope(0, 0), 2);
        due("cut(0), the only one", x.cut(0), 0);
        for (int rope : new int[] {0, -1, 5, Integer.MIN_VALUE, Integer.MAX_VALUE}) {
            refused(x, "cut(" + rope + ") without ropes", INDEX, () -> x.cut(rope));
        }
        due("hang(50) behind cuts", x.hang(50), 0);
        due("the bends of a new rope behind cuts", x.section(0, 5, 0), 0);
        due("the count ahead of a new rope behind cuts", x.section(0, 3, 3), 0);
        due("the trips of a new rope behind cuts", x.rope(0, 9), 0);
        due("the month of a new rope behind cuts", x.rope(0, 1), 1);
        due("trips so far stay", x.count(4), 6);
    }

    // ---- promise 4

    private static void swap() {
        about("4 swap");
        RopeThreads x = loose(2, 3);
        x.trip(1, 2, 7);
        x.pass(4);
        x.inspect(0, 0, 23);
        leaveRoom(x);
        long before = x.digest();
        due("swap(0, 99)", x.swap(0, 99), 6 * 3);
        due("its quality", x.rope(0, 0), 99);
        due("its month", x.rope(0, 1), 4);
        due("its counts", x.rope(0, 2), 0);
        due("its broken threads", x.rope(0, 3), 0);
        due("its trips", x.rope(0, 9), 0);
        due("its bends", x.section(0, 4, 0), 0);
        due("the month of its inspections", x.section(0, 4, 4), 4);
        due("the other one", x.rope(1, 3), 6 * 2);
        due("ropes", x.count(1), 2);
        due("swaps so far", x.count(6), 1);
        x.undo();
        due("digest after undo", x.digest(), before);
        due("swap(1, 1)", x.swap(1, 1), 6 * 2);
        x.inspect(0, 0, 23);
        due("the count ahead of the old one", x.section(0, 4, 3), 3);
        due("swap(0, 5)", x.swap(0, 5), 6 * 3);
        for (int section = 0; section < 24; section++) {
            for (int what = 0; what < 4; what++) {
                due("section " + section + " of the new one", x.section(0, section, what), 0);
            }
        }
        due("swap(1, 1) again", x.swap(1, 1), 0);
        due("swaps so far", x.count(6), 3);
        for (int quality : new int[] {0, 100, Integer.MIN_VALUE, Integer.MAX_VALUE}) {
            refused(x, "swap(0, " + quality + ")", ARGUMENT, () -> x.swap(0, quality));
            refused(x, "swap(2, " + quality + ")", INDEX, () -> x.swap(2, quality));
        }
        for (int rope : OUTSIDE) {
            refused(x, "swap(" + rope + ", 5)", INDEX, () -> x.swap(rope, 5));
        }
    }

    // ---- promise 5

    private static void inspect() {
        about("5 inspect");
        RopeThreads x = loose(3, 3);
        x.trip(0, 7, 7);
        x.pass(2);
        leaveRoom(x);
        long before = x.digest();
        due("inspect(0, 2, 5)", x.inspect(0, 2, 5), 8);
        due("the count of 1", x.section(0, 1, 2), 0);
        due("the count of 2", x.section(0, 2, 2), 2);
        due("the count of 5", x.section(0, 5, 2), 2);
        due("the count of 6", x.section(0, 6, 2), 0);
        due("the month of 1", x.section(0, 1, 4), 0);
        due("the month of 2", x.section(0, 2, 4), 2);
        due("the count of the other rope", x.section(1, 2, 2), 0);
        due("sections inspected so far", x.count(5), 4);
        x.undo();
        due("digest after undo", x.digest(), before);
        due("sections inspected so far after undo", x.count(5), 0);
        x.inspect(0, 2, 5);
        x.trip(0, 7, 3);
        due("inspect(0, 0, 23)", x.inspect(0, 0, 23), 4 + 20 * 3);
        due("the count ahead of 2", x.section(0, 2, 3), 2);
        due("the count ahead of 1", x.section(0, 1, 3), 0);
        due("inspect(0, 2, 2)", x.inspect(0, 2, 2), 0);
        due("the count ahead of 2 then", x.section(0, 2, 3), 3);
        due("sections inspected so far at last", x.count(5), 4 + 24 + 1);
        due("inspect(1, 23, 23)", x.inspect(1, 23, 23), 3);
        refused(x, "inspect(0, 5, 4)", ARGUMENT, () -> x.inspect(0, 5, 4));
        refused(x, "inspect(0, 23, 0)", ARGUMENT, () -> x.inspect(0, 23, 0));
        refused(x, "inspect(0, 5, -1)", INDEX, () -> x.inspect(0, 5, -1));
        refused(x, "inspect(2, 5, 4)", INDEX, () -> x.inspect(2, 5, 4));
        for (int outside : new int[] {-1, 24, Integer.MIN_VALUE, Integer.MAX_VALUE}) {
            refused(x, "inspect(0, " + outside + ", 5)", INDEX, () -> x.inspect(0, outside, 5));
            refused(x, "inspect(0, 5, " + outside + ")", INDEX, () -> x.inspect(0, 5, outside));
            refused(x, "inspect(" + outside + ", 5, 5)", INDEX, () -> x.inspect(outside, 5, 5));
        }
    }

    // ---- promise 6

    private static void set() {
        about("6 set");
        int[] most = {12, 99, 999, 99, 60};
        int[] first = {4, 8, 20, 5, 3};
        for (int i = 0; i < 5; i++) {
            RopeThreads x = new RopeThreads();
            int setting = i;
            int above = most[i] + 1;
            due("set to the least", x.set(i, 1), first[i]);
            due("set to the most", x.set(i, most[i]), 1);
            due("the setting", x.setting(i), most[i]);
            for (int j = 0; j < 5; j++) {
                due("the setting " + j, x.setting(j), j == i ? most[j] : first[j]);
            }
            due("set to the same", x.set(i, most[i]), most[i]);
            due("saved states", x.count(8), 3);
            refused(x, "set(" + i + ", 0)", ARGUMENT, () -> x.set(setting, 0));
            refused(x, "set(" + i + ", " + above + ")", ARGUMENT, () -> x.set(setting, above));
            refused(x, "set to the least int", ARGUMENT, () -> x.set(setting, Integer.MIN_VALUE));
            refused(x, "set to the greatest int", ARGUMENT, () -> x.set(setting, Integer.MAX_VALUE));
            x.undo();
            x.undo();
            due("the setting after undo", x.setting(i), 1);
        }
        RopeThreads x = new RopeThreads();
        for (int outside : new int[] {-1, 5, Integer.MIN_VALUE, Integer.MAX_VALUE}) {
            refused(x, "set(" + outside + ", 1)", INDEX, () -> x.set(outside, 1));
            refused(x, "set(" + outside + ", 0)", INDEX, () -> x.set(outside, 0));
        }
    }

    // ---- promise 7

    private static void trip() {
        about("7 trip");
        RopeThreads x = loose(1, 99);
        due("trip(2, 4, 5)", x.trip(2, 4, 5), 5);
        dueBends(x, 0, 6, 14, 5);
        dueBends(x, 1, 6, 14, 5);
        x.undo();
        due("trips so far after undo", x.count(4), 0);
        due("trip(4, 2, 1)", x.trip(4, 2, 1), 1);
        dueBends(x, 0, 6, 14, 1);
        x.undo();
        due("trip(3, 3, 99)", x.trip(3, 3, 99), 99);
        dueBends(x, 0, 9, 11, 99);
        x.undo();
        due("trip(7, 0, 2)", x.trip(7, 0, 2), 2);
        dueBends(x, 0, 0, 23, 2);
        due("trip(7, 7, 3)", x.trip(7, 7, 3), 5);
        due("the last section", x.section(0, 23, 0), 5);
        due("section 20", x.section(0, 20, 0), 2);
        due("trip(0, 0, 4)", x.trip(0, 0, 4), 9);
        due("the first section", x.section(0, 0, 0), 6);
        due("section 3", x.section(0, 3, 0), 2);
        due("trips of rope 1", x.rope(1, 9), 9);
        x.hang(5);
        due("trip(1, 1, 1)", x.trip(1, 1, 1), 10);
        due("trips of the new rope", x.rope(2, 9), 1);
        due("bends of the new rope", x.section(2, 3, 0), 1);
        due("no bends of the new rope", x.section(2, 0, 0), 0);
        for (int floor : new int[] {-1, 8, Integer.MIN_VALUE, Integer.MAX_VALUE}) {
            refused(x, "trip(" + floor + ", 0, 1)", INDEX, () -> x.trip(floor, 0, 1));
            refused(x, "trip(0, " + floor + ", 1)", INDEX, () -> x.trip(0, floor, 1));
            refused(x, "trip(0, " + floor + ", 0)", INDEX, () -> x.trip(0, floor, 0));
        }
        for (int times : new int[] {0, 100, Integer.MIN_VALUE, Integer.MAX_VALUE}) {
            refused(x, "trip(0, 0, " + times + ")", ARGUMENT, () -> x.trip(0, 0, times));
        }
    }

    private static void dueBends(RopeThreads x, int rope, int from, int to, int bends) {
        for (int section = 0; section < 24; section++) {
            boolean bent = section >= from && section <= to;
            due("the bends of section " + section, x.section(rope, section, 0), bent ? bends : 0);
        }
    }

    private static void tripsAllowed() {
        about("7 trip, whether it may");
        RopeThreads x = new RopeThreads();
        refused(x, "trip without ropes", STATE, () -> x.trip(0, 1, 1));
        refused(x, "trip to floor 8 without ropes", INDEX, () -> x.trip(0, 8, 1));
        refused(x, "trip of no times without ropes", ARGUMENT, () -> x.trip(0, 1, 0));
        x.hang(9);
        refused(x, "trip with one rope", STATE, () -> x.trip(0, 1, 1));
        x.hang(9);
        due("trip with two ropes", x.trip(0, 1, 18), 18);
        due("inspect", x.inspect(1, 0, 5), 12);
        refused(x, "trip with a rope to be retired", STATE, () -> x.trip(0, 1, 1));
        x.hang(9);
        refused(x, "trip with two good ropes and one to be retired", STATE, () -> x.trip(0, 1, 1));
        x.cut(1);
        due("trip behind the cut", x.trip(0, 1, 1), 19);
        x.pass(4);
        refused(x, "trip behind months", STATE, () -> x.trip(0, 1, 1));

        // 512 calls cannot reach the limit of the trips, so this object is used for more of them than is promised.
        RopeThreads y = loose(99, 99);
        for (int i = 0; i < 1010; i++) {
            y.trip(0, 0, 99);
        }
        refused(y, "trip to 100000 trips", STATE, () -> y.trip(0, 0, 10));
        due("trip to 99999 trips", y.trip(0, 0, 9), 99999);
        refused(y, "trip behind 99999 trips", STATE, () -> y.trip(0, 0, 1));
        y.undo();
        type(y, "0-0*4;1-1*6");
        refused(y, "run to 100000 trips", STATE, y::run);
        due("the text stays", y.clearBuffer(), 11);
        type(y, "0-0*4;1-1*5");
        due("run to 99999 trips", y.run(), 99999);
    }

    // ---- promise 8

    private static void pass() {
        about("8 pass");
        RopeThreads x = new RopeThreads();
        due("pass(1) without ropes", x.pass(1), 0);
        x.hang(5);
        x.pass(1);
        x.hang(5);
        due("pass(2)", x.pass(2), 0);
        due("pass(1)", x.pass(1), 1);
        due("the month", x.count(0), 5);
        due("pass(1) again", x.pass(1), 2);
        x.undo();
        due("the month after undo", x.count(0), 5);
        for (int months : new int[] {0, 25, -1, Integer.MIN_VALUE, Integer.MAX_VALUE}) {
            refused(x, "pass(" + months + ")", ARGUMENT, () -> x.pass(months));
        }
        RopeThreads y = new RopeThreads();
        for (int i = 0; i < 83; i++) {
            y.pass(24);
        }
        due("the month", y.count(0), 1992);
        refused(y, "pass(9) to the month 2001", STATE, () -> y.pass(9));
        due("pass(8) to the month 2000", y.pass(8), 0);
        refused(y, "pass(1) behind the month 2000", STATE, () -> y.pass(1));
        refused(y, "pass(0) behind the month 2000", ARGUMENT, () -> y.pass(0));
        y.hang(3);
        due("the month of a rope that is hung then", y.rope(0, 1), 2000);
        due("its months left", y.rope(0, 8), 4);
    }

    // ---- promise 9

    private static void append() {
        about("9 append");
        RopeThreads x = new RopeThreads();
        for (int code : new int[] {32, 127, 0, -1, Integer.MIN_VALUE, Integer.MAX_VALUE}) {
            refused(x, "append(" + code + ")", ARGUMENT, () -> x.append(code));
        }
        due("append(33)", x.append(33), 1);
        due("append(126)", x.append(126), 2);
        for (int length = 3; length <= 60; length++) {
            due("append(65)", x.append(65), length);
        }
        refused(x, "append(65) to 60 characters", STATE, () -> x.append(65));
        refused(x, "append(32) to 60 characters", ARGUMENT, () -> x.append(32));
        due("saved states", x.count(8), 0);
        due("the length", x.clearBuffer(), 60);
        x.hang(5);
        type(x, "0-1");
        x.undo();
        due("undo leaves the text", x.clearBuffer(), 3);
    }

    // ---- promise 10

    private static void clearBuffer() {
        about("10 clearBuffer");
        RopeThreads x = new RopeThreads();
        due("clearBuffer() of an empty one", x.clearBuffer(), 0);
        x.hang(5);
        type(x, "0-7*");
        due("clearBuffer()", x.clearBuffer(), 4);
        due("clearBuffer() again", x.clearBuffer(), 0);
        due("saved states", x.count(8), 1);
        due("append behind it", x.append('3'), 1);
        due("firstError behind it", x.firstError(), 1);
        x.undo();
        due("undo does not bring the text back", x.clearBuffer(), 1);
    }

    // ---- promise 11

    private static void firstError() {
        about("11 firstError");
        String[] good = {"", "0", "0-", "0-7", "7-0*", "0-7*1", "0-7*10", "0-7*19", "0-7*2", "0-7*9", "0-7*20",
            "0-7*99", "3-3", "0-7;", "0-7*5;", "0-7*55;", "0-7;1", "0-7;1-2*33;4-4",
            repeated("0-0*99;", 8) + "0-0*", repeated("0-0;", 15)};
        for (String text : good) {
            dueError(text, text.length());
        }
        dueError("8", 0);
        dueError("9-1", 0);
        dueError("-", 0);
        dueError(";", 0);
        dueError("*", 0);
        dueError("/", 0);
        dueError("a", 0);
        dueError("00", 1);
        dueError("0*", 1);
        dueError("0;", 1);
        dueError("0--", 2);
        dueError("0-8", 2);
        dueError("0-;", 2);
        dueError("0-*", 2);
        dueError("0-77", 3);
        dueError("0-7-", 3);
        dueError("0-7*0", 4);
        dueError("0-7**", 4);
        dueError("0-7*;", 4);
        dueError("0-7*:", 4);
        dueError("0-7*/", 4);
        dueError("0-7*1;", 5);
        dueError("0-7*1*", 5);
        dueError("0-7*1:", 5);
        dueError("0-7*1/", 5);
        dueError("0-7*2*", 5);
        dueError("0-7*2:", 5);
        dueError("0-7*2-", 5);
        dueError("0-7*100", 6);
        dueError("0-7*99*", 6);
        dueError("0-7*99-", 6);
        dueError("0-7;;", 4);
        dueError("0-7;8", 4);
        dueError("0-7*12;1-2*0;9", 11);
        dueError("0-7x0-7", 3);
        dueError(repeated("A", 60), 0);
    }

    private static void dueError(String text, int place) {
        RopeThreads x = new RopeThreads();
        type(x, text);
        quiet(x, "firstError() of " + text, place, x::firstError);
        due("the length of " + text, x.clearBuffer(), text.length());
    }

    // ---- promise 12

    private static void run() {
        about("12 run");
        RopeThreads x = loose(1, 2);
        type(x, "3-1*12;7-7;0-0*2;2-2*99");
        long before = x.count(8);
        due("run()", x.run(), 12 + 1 + 2 + 99);
        due("saved states", x.count(8), before == 6 ? 6 : before + 1);
        due("section 0", x.section(0, 0, 0), 2);
        due("section 3", x.section(0, 3, 0), 12);
        due("section 6", x.section(1, 6, 0), 12 + 99);
        due("section 11", x.section(0, 11, 0), 12);
        due("section 12", x.section(0, 12, 0), 0);
        due("section 21", x.section(0, 21, 0), 1);
        due("trips of a rope", x.rope(1, 9), 114);
        due("the text is cleared", x.clearBuffer(), 0);
        x.undo();
        due("trips so far after undo", x.count(4), 0);
        due("section 6 after undo", x.section(0, 6, 0), 0);
        due("the text after undo", x.clearBuffer(), 0);
        type(x, repeated("1-1;", 14) + "1-1");
        due("run() of 15 parts", x.run(), 15);
        due("section 4", x.section(0, 4, 0), 15);
        type(x, repeated("1-1*99;", 8) + "0-1");
        due("run() of 9 parts", x.run(), 15 + 8 * 99 + 1);
        type(x, "0-0");
        due("run() of one part behind others", x.run(), 15 + 8 * 99 + 2);
    }

    private static void runRefused() {
        about("12 run, refused");
        RopeThreads x = loose(5, 5);
        refused(x, "run() of nothing", ARGUMENT, x::run);
        for (String text : new String[] {"0", "0-", "0-7*", "0-7*1", "0-7;", "0-7*5;", "8-1", "0-7*0", "0-7*100",
            "0-7;0-9", "0-7;;0-7", ";0-7", "0-7*01", "x"}) {
            type(x, text);
            refused(x, "run() of " + text, ARGUMENT, x::run);
            due("the text stays", x.clearBuffer(), text.length());
        }
        RopeThreads y = new RopeThreads();
        refused(y, "run() of nothing without ropes", ARGUMENT, y::run);
        type(y, "0-7*1");
        refused(y, "run() of a part of a text without ropes", ARGUMENT, y::run);
        type(y, "0-7*12");
        refused(y, "run() without ropes", STATE, y::run);
        y.hang(5);
        refused(y, "run() with one rope", STATE, y::run);
        y.hang(5);
        due("run() with two ropes", y.run(), 12);
        y.inspect(0, 0, 23);
        type(y, "0-7");
        refused(y, "run() with a rope to be retired", STATE, y::run);
    }

    // ---- promise 13

    private static void undo() {
        about("13 undo");
        RopeThreads x = new RopeThreads();
        long[] digests = new long[10];
        for (int i = 0; i < 8; i++) {
            x.set(2, 100 + i);
            digests[i] = x.digest();
        }
        due("saved states", x.count(8), 6);
        for (int left = 5; left >= 0; left--) {
            due("undo()", x.undo(), left);
            due("the setting", x.setting(2), 100 + left + 1);
        }
        refused(x, "undo() behind the last one", STATE, x::undo);
        due("set behind undo", x.set(2, 5), 101);
        due("undo() of that", x.undo(), 0);
        due("the setting", x.setting(2), 101);

        RopeThreads y = new RopeThreads();
        y.set(0, 5);
        y.set(0, 6);
        y.undo();
        y.set(0, 7);
        due("undo() behind undo() and set", y.undo(), 1);
        due("the setting then", y.setting(0), 5);
        due("the last undo()", y.undo(), 0);
        due("the setting at first", y.setting(0), 4);
        due("digest as of a new object", y.digest(), new RopeThreads().digest());
    }

    private static void undoOfEachMethod() {
        about("13 undo of each method");
        RopeThreads x = loose(1, 2);
        x.trip(0, 3, 40);
        x.pass(2);
        x.inspect(1, 4, 9);
        x.trip(5, 6, 20);
        for (int i = 0; i < 3; i++) {
            x.undo();
        }
        dueUndone(x, "hang", () -> x.hang(3));
        dueUndone(x, "cut", () -> x.cut(0));
        dueUndone(x, "swap", () -> x.swap(1, 8));
        dueUndone(x, "inspect", () -> x.inspect(0, 3, 20));
        dueUndone(x, "set", () -> x.set(4, 2));
        dueUndone(x, "trip", () -> x.trip(6, 1, 77));
        dueUndone(x, "pass", () -> x.pass(5));
        type(x, "0-1*5;2-3");
        due("saved states ahead of run()", x.count(8), 3);
        long before = stateHash(x);
        int trips = x.count(4);
        due("run()", x.run(), trips + 6);
        due("saved states after run()", x.count(8), 4);
        due("undo() of run()", x.undo(), 3);
        due("the state after undo() of run()", stateHash(x), before);
        dueUndone(x, "inspect that changes nothing", () -> x.inspect(1, 23, 23));
        List<Call> calls = new ArrayList<>();
        calls.add(() -> x.trip(1, 2, 3));
        calls.add(() -> x.hang(9));
        calls.add(() -> x.cut(0));
        calls.add(() -> x.swap(0, 4));
        calls.add(() -> x.inspect(1, 0, 23));
        calls.add(() -> x.pass(24));
        long[] valuesBefore = stateOf(x);
        for (Call call : calls) {
            call.answer();
        }
        for (int left = 5; left >= 0; left--) {
            due("undo() of six in a row", x.undo(), left);
        }
        long[] valuesAfter = stateOf(x);
        for (int i = 0; i < valuesBefore.length; i++) {
            due("value " + i + " behind six undone", valuesAfter[i], valuesBefore[i]);
        }
    }

    private static long stateHash(RopeThreads x) {
        return Arrays.hashCode(stateOf(x));
    }

    private static long[] stateOf(RopeThreads x) {
        List<Long> values = new ArrayList<>();
        for (int what = 0; what < 8; what++) {
            values.add((long) x.count(what));
        }
        for (int rope = 0; rope < x.count(1); rope++) {
            for (int what = 0; what < 10; what++) {
                values.add((long) x.rope(rope, what));
            }
            for (int section = 0; section < 24; section++) {
                for (int what = 0; what < 5; what++) {
                    values.add((long) x.section(rope, section, what));
                }
            }
        }
        return values.stream().mapToLong(Long::longValue).toArray();
    }

    // ---- promise 14

    private static void rope() {
        about("14 rope");
        RopeThreads x = new RopeThreads();
        x.pass(3);
        x.hang(4);
        x.hang(2);
        x.set(1, 99);
        x.set(2, 999);
        x.set(3, 99);
        due("trip", x.trip(2, 3, 10), 10);
        due("trip", x.trip(3, 3, 7), 17);
        x.pass(1);
        x.inspect(1, 10, 11);
        quiet(x, "quality", 2, () -> x.rope(1, 0));
        quiet(x, "month", 3, () -> x.rope(1, 1));
        quiet(x, "counts", 16, () -> x.rope(1, 2));
        quiet(x, "broken threads", 3 * 5 + 3 * 8, () -> x.rope(1, 3));
        quiet(x, "greatest window", 16, () -> x.rope(1, 4));
        quiet(x, "its number", 8, () -> x.rope(1, 5));
        quiet(x, "greatest true sum", 24 + 5, () -> x.rope(1, 6));
        quiet(x, "reason", 0, () -> x.rope(1, 7));
        quiet(x, "months left", 3, () -> x.rope(1, 8));
        quiet(x, "trips", 17, () -> x.rope(1, 9));
        due("the window of a rope without counts", x.rope(0, 5), 0);
        due("the greatest window of a rope without counts", x.rope(0, 4), 0);
        due("broken threads of rope 0", x.rope(0, 3), 3 * 2 + 3 * 4);
        x.set(0, 1);
        due("the window of one section", x.rope(1, 5), 10);
        x.set(0, 12);
        due("the window of twelve sections", x.rope(1, 5), 0);
        x.inspect(1, 0, 23);
        due("the window of twelve sections, all counted", x.rope(1, 5), 0);
        x.set(0, 5);
        due("the window of five sections, all counted", x.rope(1, 5), 7);
        due("the months left count from the oldest inspection", x.rope(0, 8), 3);
        due("the months left of a rope inspected now", x.rope(1, 8), 4);
        x.pass(2);
        due("the months left behind two months", x.rope(0, 8), 1);
        x.pass(1);
        due("no months left", x.rope(0, 8), 0);
        x.pass(20);
        due("long no months left", x.rope(0, 8), 0);
        for (int what : new int[] {-1, 10, Integer.MIN_VALUE, Integer.MAX_VALUE}) {
            refused(x, "rope(0, " + what + ")", ARGUMENT, () -> x.rope(0, what));
            refused(x, "rope(2, " + what + ")", INDEX, () -> x.rope(2, what));
        }
        for (int rope : OUTSIDE) {
            refused(x, "rope(" + rope + ", 0)", INDEX, () -> x.rope(rope, 0));
        }
    }

    private static void eachWindow() {
        about("14 rope, each window");
        RopeThreads x = loose(1);
        x.hang(1);
        x.trip(0, 7, 2);
        for (int section = 0; section < 24; section++) {
            x.inspect(0, section, section);
            due("reason with one section", x.rope(0, 7), 0);
            x.set(3, 2);
            due("reason 3 by one section", x.rope(0, 7), 3);
            x.set(3, 99);
            for (int size = 1; size <= 12; size++) {
                x.set(0, size);
                due("the window with section " + section, x.rope(0, 5), Math.max(0, section - size + 1));
                due("its sum", x.rope(0, 4), 2);
                x.set(1, 2);
                due("reason 1 by one section", x.rope(0, 7), 1);
                x.set(1, 99);
            }
            x.swap(0, 1);
            x.cut(1);
            x.hang(1);
            x.trip(0, 7, 2);
        }
        due("the greatest true sum without wear", loose(2).rope(0, 6), 0);
        RopeThreads first = loose(1, 1);
        first.trip(0, 0, 3);
        first.trip(4, 4, 2);
        first.inspect(0, 0, 0);
        first.inspect(0, 13, 13);
        due("section 0 has more than section 13", first.rope(0, 5), 0);
        due("its count", first.rope(0, 4), 3);
        for (int floor = 0; floor < 8; floor++) {
            RopeThreads y = loose(2, 2);
            y.trip(floor, floor, 4);
            due("broken threads by one floor", y.rope(0, 3), 6);
            for (int size = 1; size <= 12; size++) {
                y.set(0, size);
                due("the greatest true sum by one floor", y.rope(0, 6), 2 * Math.min(3, size));
            }
        }
    }

    private static void reasons() {
        about("14 rope, its reason");
        RopeThreads x = loose(1, 1);
        x.trip(0, 0, 3);
        x.trip(7, 7, 2);
        x.inspect(0, 0, 23);
        due("no reason", x.rope(0, 7), 0);
        x.set(1, 10);
        due("a window below its limit", x.rope(0, 7), 0);
        x.set(1, 9);
        due("a window at its limit", x.rope(0, 7), 1);
        due("not inspected", x.rope(1, 7), 0);
        x.set(1, 99);
        x.set(2, 16);
        due("a rope below its limit", x.rope(0, 7), 0);
        x.set(2, 15);
        due("a rope at its limit", x.rope(0, 7), 2);
        x.set(1, 9);
        due("reason 1 ahead of 2", x.rope(0, 7), 1);
        x.set(1, 99);
        x.set(3, 3);
        due("reason 2 ahead of 3", x.rope(0, 7), 2);
        x.set(2, 16);
        due("a growth at its limit", x.rope(0, 7), 3);
        x.set(3, 4);
        due("a growth below its limit", x.rope(0, 7), 0);
        x.set(3, 3);
        x.pass(24);
        x.set(4, 24);
        due("months at their limit", x.rope(1, 7), 0);
        x.set(4, 23);
        due("months above their limit", x.rope(1, 7), 4);
        due("reason 3 ahead of 4", x.rope(0, 7), 3);
        x.inspect(1, 0, 22);
        x.set(3, 99);
        due("one section long not inspected", x.rope(1, 7), 4);
        x.inspect(1, 23, 23);
        due("all sections inspected", x.rope(1, 7), 0);
        due("the count is no growth any more", x.rope(0, 8), 0);
        x.set(3, 3);
        x.inspect(0, 0, 23);
        due("the second inspection ends the growth", x.rope(0, 7), 0);
    }

    // ---- promise 15

    private static void section() {
        about("15 section");
        RopeThreads x = loose(3, 5);
        x.trip(1, 1, 11);
        x.pass(2);
        x.inspect(0, 3, 3);
        x.trip(1, 0, 4);
        x.pass(1);
        x.inspect(0, 3, 4);
        quiet(x, "bends", 15, () -> x.section(0, 3, 0));
        quiet(x, "broken threads", 5, () -> x.section(0, 3, 1));
        quiet(x, "count", 5, () -> x.section(0, 3, 2));
        quiet(x, "count ahead", 3, () -> x.section(0, 3, 3));
        quiet(x, "month", 3, () -> x.section(0, 3, 4));
        due("count ahead of another", x.section(0, 4, 3), 0);
        due("month of the next", x.section(0, 5, 4), 0);
        due("bends of section 2", x.section(0, 2, 0), 4);
        due("broken threads of section 2", x.section(0, 2, 1), 1);
        due("broken threads of rope 1", x.section(1, 3, 1), 3);
        due("the last section", x.section(1, 23, 0), 0);
        for (int outside : new int[] {-1, 24, Integer.MIN_VALUE, Integer.MAX_VALUE}) {
            refused(x, "section(0, " + outside + ", 0)", INDEX, () -> x.section(0, outside, 0));
            refused(x, "section(0, " + outside + ", 9)", INDEX, () -> x.section(0, outside, 9));
            refused(x, "section(" + outside + ", 0, 0)", INDEX, () -> x.section(outside, 0, 0));
            refused(x, "section(0, 0, " + outside + ")", ARGUMENT, () -> x.section(0, 0, outside));
        }
        refused(x, "section(2, 0, 5)", INDEX, () -> x.section(2, 0, 5));
        refused(x, "section(0, 0, 5)", ARGUMENT, () -> x.section(0, 0, 5));
    }

    // ---- promise 16

    private static void window() {
        about("16 window");
        RopeThreads x = loose(2, 2);
        x.trip(2, 2, 6);
        x.inspect(0, 7, 7);
        quiet(x, "sum", 3, () -> x.window(0, 5, 0));
        quiet(x, "true sum", 9, () -> x.window(0, 5, 1));
        due("window 3", x.window(0, 3, 1), 3);
        due("window 2", x.window(0, 2, 1), 0);
        due("window 7", x.window(0, 7, 0), 3);
        due("window 8", x.window(0, 8, 0), 0);
        due("window 20", x.window(0, 20, 1), 0);
        for (int size = 1; size <= 12; size++) {
            x.set(0, size);
            int last = 24 - size;
            due("the last window", x.window(0, last, 0), last <= 7 && 7 <= last + size - 1 ? 3 : 0);
            refused(x, "the window behind the last one", INDEX, () -> x.window(0, last + 1, 0));
        }
        due("window 0 of twelve sections", x.window(0, 0, 1), 9);
        for (int outside : new int[] {-1, 24, Integer.MIN_VALUE, Integer.MAX_VALUE}) {
            refused(x, "window(0, " + outside + ", 0)", INDEX, () -> x.window(0, outside, 0));
            refused(x, "window(" + outside + ", 0, 0)", INDEX, () -> x.window(outside, 0, 0));
            refused(x, "window(0, 0, " + outside + ")", ARGUMENT, () -> x.window(0, 0, outside));
        }
        refused(x, "window(0, 0, 2)", ARGUMENT, () -> x.window(0, 0, 2));
        refused(x, "window(2, 0, 2)", INDEX, () -> x.window(2, 0, 2));
        refused(x, "window(0, 13, 2)", INDEX, () -> x.window(0, 13, 2));
    }

    // ---- promise 17

    private static void count() {
        about("17 count");
        RopeThreads x = withRopes(1, 2, 3);
        x.trip(0, 1, 12);
        x.inspect(1, 2, 3);
        x.swap(2, 7);
        x.pass(2);
        quiet(x, "the month", 2, () -> x.count(0));
        quiet(x, "ropes", 3, () -> x.count(1));
        quiet(x, "ropes to be retired", 1, () -> x.count(2));
        quiet(x, "whether it can run", 0, () -> x.count(3));
        quiet(x, "trips", 12, () -> x.count(4));
        quiet(x, "sections inspected", 2, () -> x.count(5));
        quiet(x, "swaps", 1, () -> x.count(6));
        quiet(x, "not counted", 72 + 36 - 12, () -> x.count(7));
        quiet(x, "saved states", 6, () -> x.count(8));
        x.swap(1, 9);
        due("it can run", x.count(3), 1);
        due("none to be retired", x.count(2), 0);
        x.cut(0);
        x.cut(0);
        due("with one rope it cannot", x.count(3), 0);
        due("trips stay", x.count(4), 12);
        due("inspections stay", x.count(5), 2);
        due("swaps stay", x.count(6), 2);
        due("nothing is uncounted", x.count(7), 0);
        for (int what : new int[] {-1, 9, Integer.MIN_VALUE, Integer.MAX_VALUE}) {
            refused(x, "count(" + what + ")", ARGUMENT, () -> x.count(what));
        }
    }

    // ---- promise 18

    private static void setting() {
        about("18 setting");
        RopeThreads x = new RopeThreads();
        for (int i = 0; i < 5; i++) {
            x.set(i, i + 7);
        }
        for (int i = 0; i < 5; i++) {
            int setting = i;
            quiet(x, "setting(" + i + ")", i + 7, () -> x.setting(setting));
        }
        for (int outside : new int[] {-1, 5, Integer.MIN_VALUE, Integer.MAX_VALUE}) {
            refused(x, "setting(" + outside + ")", INDEX, () -> x.setting(outside));
        }
    }

    // ---- promise 19

    private static void ifInspected() {
        about("19 ifInspected");
        RopeThreads x = withRopes(1, 1);
        x.trip(3, 3, 4);
        quiet(x, "one section", 0, () -> x.ifInspected(0, 9, 9));
        quiet(x, "two sections", 1, () -> x.ifInspected(0, 9, 10));
        quiet(x, "sections without threads", 0, () -> x.ifInspected(0, 12, 23));
        x.set(1, 99);
        x.set(2, 12);
        due("a rope at its limit", x.ifInspected(0, 0, 23), 2);
        due("a rope below its limit", x.ifInspected(0, 0, 10), 0);
        x.set(3, 4);
        due("a growth at its limit", x.ifInspected(0, 9, 9), 3);
        due("no growth elsewhere", x.ifInspected(0, 10 + 2, 12), 0);
        x.inspect(0, 9, 9);
        due("the growth is there", x.rope(0, 7), 3);
        due("an inspection would end it", x.ifInspected(0, 9, 9), 0);
        due("an inspection elsewhere would not", x.ifInspected(0, 0, 8), 3);
        x.set(3, 99);
        x.set(2, 999);
        x.pass(4);
        due("not all sections", x.ifInspected(1, 0, 22), 4);
        due("not the first section", x.ifInspected(1, 1, 23), 4);
        due("all sections", x.ifInspected(1, 0, 23), 0);
        refused(x, "ifInspected(0, 5, 4)", ARGUMENT, () -> x.ifInspected(0, 5, 4));
        refused(x, "ifInspected(2, 5, 4)", INDEX, () -> x.ifInspected(2, 5, 4));
        for (int outside : new int[] {-1, 24, Integer.MIN_VALUE, Integer.MAX_VALUE}) {
            refused(x, "ifInspected(" + outside + ", 0, 0)", INDEX, () -> x.ifInspected(outside, 0, 0));
            refused(x, "ifInspected(0, " + outside + ", 5)", INDEX, () -> x.ifInspected(0, outside, 5));
            refused(x, "ifInspected(0, 5, " + outside + ")", INDEX, () -> x.ifInspected(0, 5, outside));
        }
    }

    // ---- promise 20

    private static void bestInspection() {
        about("20 bestInspection");
        RopeThreads x = loose(1, 1);
        for (int many = 1; many <= 24; many++) {
            int so = many;
            quiet(x, "best of " + many + " without wear", 0, () -> x.bestInspection(0, so));
        }
        x.trip(3, 4, 5);
        x.trip(5, 5, 6);
        due("best of 1", x.bestInspection(0, 1), 15);
        due("best of 3", x.bestInspection(0, 3), 15);
        due("best of 4", x.bestInspection(0, 4), 14);
        due("best of 9", x.bestInspection(0, 9), 9);
        due("best of 12", x.bestInspection(0, 12), 6);
        due("best of 24", x.bestInspection(0, 24), 0);
        x.inspect(0, 15, 17);
        due("best of 1 behind an inspection", x.bestInspection(0, 1), 9);
        due("best of 4 behind an inspection", x.bestInspection(0, 4), 9);
        due("best of 7 behind an inspection", x.bestInspection(0, 7), 8);
        due("best of 1 of the other rope", x.bestInspection(1, 1), 15);
        x.inspect(0, 9, 13);
        due("best of 1 at last", x.bestInspection(0, 1), 14);
        RopeThreads first = loose(1, 1);
        first.trip(0, 0, 3);
        first.trip(4, 4, 2);
        first.inspect(0, 1, 12);
        due("best of 1 where section 0 has more than section 13", first.bestInspection(0, 1), 0);
        due("best of 2 where section 13 and 14 have more than section 0", first.bestInspection(0, 2), 13);
        for (int section = 0; section < 24; section++) {
            RopeThreads y = loose(2, 2);
            y.trip(0, 7, 2);
            if (section > 0) {
                y.inspect(0, 0, section - 1);
            }
            if (section < 23) {
                y.inspect(0, section + 1, 23);
            }
            for (int many = 1; many <= 24; many++) {
                due("best of " + many + " with section " + section, y.bestInspection(0, many),
                    Math.max(0, section - many + 1));
            }
        }
        for (int many : new int[] {0, 25, -1, Integer.MIN_VALUE, Integer.MAX_VALUE}) {
            refused(x, "bestInspection(0, " + many + ")", ARGUMENT, () -> x.bestInspection(0, many));
            refused(x, "bestInspection(2, " + many + ")", INDEX, () -> x.bestInspection(2, many));
        }
        for (int rope : OUTSIDE) {
            refused(x, "bestInspection(" + rope + ", 1)", INDEX, () -> x.bestInspection(rope, 1));
        }
    }

    // ---- promise 21

    private static void tripsLeft() {
        about("21 tripsLeft");
        RopeThreads x = withRopes(10, 99);
        quiet(x, "a new rope", 20, () -> x.tripsLeft(0));
        quiet(x, "a new rope of the best quality", 198, () -> x.tripsLeft(1));
        x.trip(0, 7, 19);
        due("behind 19 trips", x.tripsLeft(0), 1);
        x.trip(0, 7, 1);
        due("behind 20 trips", x.tripsLeft(0), 0);
        x.trip(0, 7, 30);
        due("behind 50 trips", x.tripsLeft(0), 0);
        due("the count does not matter", x.rope(0, 2), 0);
        RopeThreads y = withRopes(4);
        due("one rope alone", y.tripsLeft(0), 8);
        y.set(0, 3);
        due("8 in windows of three", y.tripsLeft(0), 12);
        y.set(0, 12);
        due("8 in windows of twelve", y.tripsLeft(0), 4);
        y.set(0, 1);
        y.set(1, 99);
        due("99 in windows of one", y.tripsLeft(0), 396);
        y.swap(0, 99);
        due("99 in windows of one, of the best quality", y.tripsLeft(0), 9801);
        RopeThreads z = withRopes(10, 1);
        z.cut(1);
        z.hang(10);
        z.trip(2, 2, 6);
        z.trip(3, 3, 3);
        // After 4 more trips the sections of floor 2 have one broken thread each; after 7 those of floor 3, too.
        z.set(1, 3);
        due("a window of one floor", z.tripsLeft(0), 4);
        z.set(1, 4);
        due("a window of two floors", z.tripsLeft(0), 7);
        z.set(1, 5);
        due("a window with two threads in a section", z.tripsLeft(0), 14);
        z.inspect(0, 0, 23);
        due("an inspection does not matter", z.tripsLeft(0), 14);
        for (int floor = 0; floor < 8; floor++) {
            RopeThreads w = withRopes(10, 10);
            w.trip(floor, floor, 15);
            w.set(0, 1);
            w.set(1, 2);
            due("the floor " + floor + " is worn most", w.tripsLeft(0), 5);
            w.set(0, 3);
            w.set(1, 6);
            due("the floor " + floor + " in windows of three", w.tripsLeft(0), 5);
        }
        for (int rope : new int[] {2, 5, -1, Integer.MIN_VALUE, Integer.MAX_VALUE}) {
            refused(z, "tripsLeft(" + rope + ")", INDEX, () -> z.tripsLeft(rope));
        }
    }

    // ---- promise 22

    private static void unseen() {
        about("22 unseen");
        RopeThreads x = withRopes(99, 5, 4);
        quiet(x, "new ropes", -1, x::unseen);
        x.trip(0, 0, 14);
        quiet(x, "two sixes and a nine", 2, x::unseen);
        x.trip(0, 0, 1);
        quiet(x, "two nines", 1, x::unseen);
        x.inspect(1, 0, 0);
        due("one section inspected", x.unseen(), 1);
        x.inspect(1, 0, 23);
        due("rope 1 is to be retired", x.unseen(), 2);
        x.inspect(2, 0, 23);
        due("both are to be retired", x.unseen(), -1);
        for (int floor = 0; floor < 8; floor++) {
            RopeThreads z = withRopes(99, 1);
            z.set(0, 3);
            z.set(1, 9);
            z.trip(floor, floor, 3);
            due("all three sections of the floor " + floor, z.unseen(), 1);
            due("the same as ifInspected", z.ifInspected(1, 0, 23), 1);
            dueDigest(z, "");
        }
        RopeThreads y = withRopes(1, 1);
        y.set(1, 99);
        y.trip(0, 6, 1);
        due("a rope at its limit", y.unseen(), 0);
        y.set(2, 22);
        due("a rope below its limit", y.unseen(), -1);
        y.set(3, 1);
        due("reason 3 does not matter", y.unseen(), -1);
        y.set(2, 21);
        due("reason 2 ahead of 3", y.unseen(), 0);
        y.pass(4);
        due("reason 4 retires both", y.unseen(), -1);
        y.inspect(1, 20, 23);
        y.inspect(1, 0, 20);
        due("an inspected rope is not unseen", y.unseen(), -1);
    }

    // ---- promise 23

    private static void countedShare() {
        about("23 countedShare");
        RopeThreads x = new RopeThreads();
        dueShare(x, 1.0);
        x.hang(3);
        x.hang(7);
        dueShare(x, 1.0);
        x.trip(0, 7, 2);
        dueShare(x, 1.0);
        x.trip(0, 0, 1);
        dueShare(x, 0.0);
        x.inspect(0, 0, 0);
        dueShare(x, 1.0 / 3.0);
        x.trip(0, 0, 5);
        dueShare(x, 1.0 / 9.0);
        x.inspect(1, 1, 2);
        dueShare(x, 3.0 / 9.0);
        x.inspect(0, 1, 2);
        dueShare(x, 7.0 / 9.0);
        x.inspect(0, 0, 0);
        x.inspect(1, 0, 0);
        dueShare(x, 1.0);
        x.swap(0, 5);
        dueShare(x, 1.0);
    }

    private static void dueShare(RopeThreads x, double want) {
        long before = x.digest();
        due("the bits of countedShare()", Double.doubleToLongBits(x.countedShare()), Double.doubleToLongBits(want));
        due("digest after countedShare()", x.digest(), before);
        dueDigest(x, "");
    }

    // ---- promise 24

    private static void digest() {
        about("24 digest");
        RopeThreads x = new RopeThreads();
        dueDigest(x, "");
        type(x, "~!0");
        dueDigest(x, "~!0");
        x.hang(3);
        dueDigest(x, "~!0");
        x.hang(2);
        x.hang(99);
        x.trip(1, 6, 13);
        dueDigest(x, "~!0");
        x.set(0, 1);
        x.pass(2);
        x.inspect(1, 5, 7);
        x.swap(0, 44);
        dueDigest(x, "~!0");
        x.set(0, 12);
        x.cut(2);
        dueDigest(x, "~!0");
        x.clearBuffer();
        x.undo();
        dueDigest(x, "");
        for (int floor = 0; floor < 8; floor += 7) {
            RopeThreads z = withRopes(1, 1);
            z.set(0, 3);
            z.set(1, 9);
            z.trip(floor, floor, 3);
            dueDigest(z, "");
            z.pass(4);
            dueDigest(z, "");
        }
        RopeThreads y = loose(1, 2, 3, 4, 5);
        y.trip(0, 7, 20);
        for (int i = 0; i < 24; i++) {
            y.inspect(i % 5, i, i);
            if (y.count(3) == 1) {
                y.trip(i % 8, (i * 3) % 8, 1 + i);
            }
            y.pass(1);
            dueDigest(y, "");
        }
    }
}
