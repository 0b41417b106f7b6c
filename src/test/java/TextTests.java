import java.util.regex.Matcher;
import java.util.regex.Pattern;

/** Every short text of the signs that matter, alone and behind some beginnings, against a pattern for trips. */
public final class TextTests extends Checks {
    private static final String PART = "[0-7]-[0-7](\\*([2-9]|[1-9][0-9]))?";
    private static final Pattern TRIPS = Pattern.compile(PART + "(;" + PART + ")*");
    // The digits at both ends of what is a floor or a first digit of the times, the three marks and their neighbours.
    private static final char[] SIGNS = "01789-*;/:+,".toCharArray();
    private static final String[] BEGINNINGS = {"0-7*1", "3-3*2", "0-0;", "7-0*99", "7-7*10;1-2", repeated("0-0*99;", 8)};
    private static final int ALONE = 5;
    private static final int BEHIND = 3;

    // An object is used for at most 512 calls, and a text takes at most 66 of them.
    private static final int TEXTS_OF_AN_OBJECT = 7;

    private static RopeThreads running = null;
    private static int seen = 0;

    public static void main(String[] args) {
        about("Input text");
        textsFrom("", ALONE);
        for (String beginning : BEGINNINGS) {
            textsFrom(beginning, BEHIND);
        }
        finish(seen + " texts are read as due");
    }

    private static void textsFrom(String text, int more) {
        look(text);
        if (more > 0 && text.length() < 60) {
            for (char sign : SIGNS) {
                textsFrom(text + sign, more - 1);
            }
        }
    }

    private static void look(String text) {
        if (seen % TEXTS_OF_AN_OBJECT == 0) {
            running = loose(50, 50);
        }
        seen++;
        type(running, text);
        due("firstError() of \"" + text + "\"", running.firstError(), errorOf(text));
        boolean complete = TRIPS.matcher(text).matches();
        due("run() of \"" + text + "\"", made(), complete ? tripsOf(text) : -1);
        due("length behind run() of \"" + text + "\"", running.clearBuffer(), complete ? 0 : text.length());
    }

    /** How many trips run makes, -1 if it says that the buffer is not complete trips; they are undone. */
    private static int made() {
        int before = running.count(4);
        try {
            int more = running.run() - before;
            running.undo();
            return more;
        } catch (IllegalArgumentException e) {
            return -1;
        }
    }

    /** The matcher was at the end of a text that more signs could make whole, or that is whole. */
    private static boolean begins(String text) {
        Matcher matcher = TRIPS.matcher(text);
        return matcher.matches() || matcher.hitEnd();
    }

    private static int errorOf(String text) {
        int place = 0;
        while (place < text.length() && begins(text.substring(0, place + 1))) {
            place++;
        }
        return place;
    }

    private static int tripsOf(String text) {
        int trips = 0;
        for (String part : text.split(";")) {
            trips += part.length() > 3 ? Integer.parseInt(part.substring(4)) : 1;
        }
        return trips;
    }
}
