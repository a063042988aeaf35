import java.util.List;

/** The boundaries of promises 13 to 17. */
public final class BoundaryWaysTest {
    private static final int[] NO_NUMBERS = {0, 8000, -1, Integer.MIN_VALUE, Integer.MAX_VALUE};
    private static final int[] NO_STYLES = {-1, 4, Integer.MIN_VALUE, Integer.MAX_VALUE};
    // The smallest and the largest number, those with the fewest and the most ways, and those at each joint.
    private static final int[] NUMBERS = {1, 19, 20, 21, 30, 380, 381, 399, 400, 401, 600, 969, 7600, 7601, 7980, 7999};

    private BoundaryWaysTest() {
    }

    public static void main(String[] args) {
        ways();
        wayLengthOutOfRange();
        wayLengthOfTheLastPlace();
        wayAtOutOfRange();
        wayAtOfTheLastPlaceAndIndex();
        styledWithoutSuchAStyle();
        styledOutOfRange();
        placeOfAText();
        placeOfATextWithAFault();
        behindANumberOfMoreWays();
        Check.end();
    }

    private static void ways() {
        Check.sentence("ways: BAD_VALUE if number is out of range");
        for (int number : NO_NUMBERS) {
            Check.due("ways(" + number + ")", new ScoreNumbers().ways(number), -2);
        }
        Check.sentence("ways: Returns how many ways there are");
        Check.due("ways(1)", new ScoreNumbers().ways(1), 2);
        Check.due("ways(400)", new ScoreNumbers().ways(400), 1);
        Check.due("ways(969)", new ScoreNumbers().ways(969), 8);
        Check.due("ways(7999)", new ScoreNumbers().ways(7999), 1);
    }

    private static void wayLengthOutOfRange() {
        Check.sentence("wayLength: BAD_VALUE if number is out of range or place is below 0");
        ScoreNumbers x = new ScoreNumbers();
        for (int number : NO_NUMBERS) {
            Check.due("wayLength(" + number + ", 0)", x.wayLength(number, 0), -2);
            Check.due("wayLength(" + number + ", -1)", x.wayLength(number, -1), -2);
            Check.due("wayLength(" + number + ", 99)", x.wayLength(number, 99), -2);
        }
        Check.due("wayLength(1, -1)", x.wayLength(1, -1), -2);
        Check.due("wayLength(7999, MIN)", x.wayLength(7999, Integer.MIN_VALUE), -2);
    }

    private static void wayLengthOfTheLastPlace() {
        Check.sentence("wayLength: NONE if there are not so many ways");
        for (int number : NUMBERS) {
            ScoreNumbers x = new ScoreNumbers();
            List<String> due = Oracle.WAYS.get(number);
            int last = due.size() - 1;
            String call = "wayLength(" + number + ", ";
            Check.due(call + "0)", x.wayLength(number, 0), due.get(0).length());
            Check.due(call + last + ")", x.wayLength(number, last), due.get(last).length());
            Check.due(call + (last + 1) + ")", x.wayLength(number, last + 1), -5);
            Check.due(call + "15)", x.wayLength(number, 15), -5);
            Check.due(call + "16)", x.wayLength(number, 16), -5);
            Check.due(call + "MAX)", x.wayLength(number, Integer.MAX_VALUE), -5);
        }
    }

    private static void wayAtOutOfRange() {
        Check.sentence("wayAt: BAD_VALUE if number is out of range, or place or index is below 0");
        ScoreNumbers x = new ScoreNumbers();
        for (int number : NO_NUMBERS) {
            Check.due("wayAt(" + number + ", 0, 0)", x.wayAt(number, 0, 0), -2);
            Check.due("wayAt(" + number + ", 99, 99)", x.wayAt(number, 99, 99), -2);
        }
        Check.due("wayAt(1, -1, 0)", x.wayAt(1, -1, 0), -2);
        Check.due("wayAt(1, 0, -1)", x.wayAt(1, 0, -1), -2);
        Check.due("wayAt(1, -1, 99)", x.wayAt(1, -1, 99), -2);
        Check.due("wayAt(1, 99, -1): not NONE", x.wayAt(1, 99, -1), -2);
        Check.due("wayAt(1, MIN, MAX)", x.wayAt(1, Integer.MIN_VALUE, Integer.MAX_VALUE), -2);
        Check.due("wayAt(1, MAX, MIN)", x.wayAt(1, Integer.MAX_VALUE, Integer.MIN_VALUE), -2);
    }

    private static void wayAtOfTheLastPlaceAndIndex() {
        Check.sentence("wayAt: NONE if there are not so many ways, or the way is not so long");
        for (int number : NUMBERS) {
            ScoreNumbers x = new ScoreNumbers();
            List<String> due = Oracle.WAYS.get(number);
            for (int place = 0; place < due.size(); place++) {
                String way = due.get(place);
                int last = way.length() - 1;
                String call = "wayAt(" + number + ", " + place + ", ";
                Check.due(call + "0)", x.wayAt(number, place, 0), way.charAt(0));
                Check.due(call + last + ")", x.wayAt(number, place, last), way.charAt(last));
                Check.due(call + (last + 1) + ")", x.wayAt(number, place, last + 1), -5);
                Check.due(call + "9)", x.wayAt(number, place, 9), -5);
                Check.due(call + "MAX)", x.wayAt(number, place, Integer.MAX_VALUE), -5);
            }
            String call = "wayAt(" + number + ", ";
            Check.due(call + due.size() + ", 0)", x.wayAt(number, due.size(), 0), -5);
            Check.due(call + "16, 0)", x.wayAt(number, 16, 0), -5);
            Check.due(call + "MAX, 0)", x.wayAt(number, Integer.MAX_VALUE, 0), -5);
            Check.due(call + "MAX, MAX)", x.wayAt(number, Integer.MAX_VALUE, Integer.MAX_VALUE), -5);
        }
        // No way is longer than 9 characters, and this one is so long.
        ScoreNumbers x = new ScoreNumbers();
        int place = Oracle.place("HsG&s-HsS");
        Check.due("wayAt(7751, " + place + ", 8)", x.wayAt(7751, place, 8), 'S');
        Check.due("wayAt(7751, " + place + ", 9)", x.wayAt(7751, place, 9), -5);
        Check.due("wayLength(7751, " + place + ")", x.wayLength(7751, place), 9);
    }

    private static void styledWithoutSuchAStyle() {
        Check.sentence("styled: NO_SUCH if there is no such style");
        ScoreNumbers x = new ScoreNumbers();
        for (int style : NO_STYLES) {
            Check.due("styled(1, " + style + ")", x.styled(1, style), -1);
            Check.due("styled(0, " + style + "): before BAD_VALUE", x.styled(0, style), -1);
            Check.due("styled(8000, " + style + "): before BAD_VALUE", x.styled(8000, style), -1);
        }
    }

    private static void styledOutOfRange() {
        Check.sentence("styled: BAD_VALUE if number is out of range");
        ScoreNumbers x = new ScoreNumbers();
        for (int number : NO_NUMBERS) {
            Check.due("styled(" + number + ", 0)", x.styled(number, 0), -2);
            Check.due("styled(" + number + ", 3)", x.styled(number, 3), -2);
        }
        Check.sentence("styled: Returns the place of the way");
        for (int number : NUMBERS) {
            for (int style = 0; style < 4; style++) {
                Check.due("styled(" + number + ", " + style + ")",
                        x.styled(number, style), Oracle.styled(number, style));
            }
        }
    }

    private static void placeOfAText() {
        Check.sentence("placeOfText: Returns the place of the text among the ways to say its meaning");
        for (int number : NUMBERS) {
            ScoreNumbers x = new ScoreNumbers();
            List<String> ways = Oracle.WAYS.get(number);
            for (int place = 0; place < ways.size(); place++) {
                Check.write(x, ways.get(place));
                Check.due("placeOfText() of " + ways.get(place), x.placeOfText(), place);
            }
        }
    }

    private static void placeOfATextWithAFault() {
        Check.sentence("placeOfText: BAD_TEXT if the text has a fault");
        for (String text : new String[] {"", " ", "H", "aS", "S+", "S+ab", "HsG&s-HsSS", "SSSSSSSSSSSSSSSSSSSS"}) {
            ScoreNumbers x = new ScoreNumbers();
            Check.write(x, text);
            Check.due("placeOfText() of '" + text + "'", x.placeOfText(), -3);
        }
    }

    /** A number of few ways is asked for behind one of many, whose ways must not show through. */
    private static void behindANumberOfMoreWays() {
        Check.sentence("NONE if there are not so many ways");
        for (int place = 1; place <= 8; place++) {
            ScoreNumbers x = new ScoreNumbers();
            Check.due("ways(969)", x.ways(969), 8);
            Check.due("wayLength(400, " + place + ") behind 969", x.wayLength(400, place), -5);
            Check.due("ways(969)", x.ways(969), 8);
            Check.due("wayAt(400, " + place + ", 0) behind 969", x.wayAt(400, place, 0), -5);
            Check.due("ways(969)", x.ways(969), 8);
            Check.due("understood(0, 400, " + place + ") behind 969", x.understood(0, 400, place), -5);
        }
    }
}
