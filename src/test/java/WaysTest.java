import java.util.List;

/** Promises 13 ways, 14 wayLength, 15 wayAt, 16 styled. */
public final class WaysTest {
    private WaysTest() {
    }

    public static void main(String[] args) {
        wrongValues();
        eachCallForItself();
        hearersAndTextDoNotMatter();
        someWays();
        someStyles();
        allNumbers();
        Check.end();
    }

    private static void wrongValues() {
        ScoreNumbers x = new ScoreNumbers();
        int[] none = {0, -1, 8000, Integer.MIN_VALUE, Integer.MAX_VALUE};
        for (int number : none) {
            Check.due("ways(" + number + ")", x.ways(number), -2);
            Check.due("wayLength(" + number + ", 0)", x.wayLength(number, 0), -2);
            Check.due("wayAt(" + number + ", 0, 0)", x.wayAt(number, 0, 0), -2);
            Check.due("styled(" + number + ", 0)", x.styled(number, 0), -2);
            Check.due("styled(" + number + ", 4): NO_SUCH first", x.styled(number, 4), -1);
        }
        Check.due("styled(1, -1)", x.styled(1, -1), -1);
        Check.due("styled(1, 4)", x.styled(1, 4), -1);
        Check.due("wayLength(1, -1)", x.wayLength(1, -1), -2);
        Check.due("wayLength(1, MIN)", x.wayLength(1, Integer.MIN_VALUE), -2);
        Check.due("wayLength(1, 2)", x.wayLength(1, 2), -5);
        Check.due("wayLength(1, MAX)", x.wayLength(1, Integer.MAX_VALUE), -5);
        Check.due("wayAt(1, -1, 0)", x.wayAt(1, -1, 0), -2);
        Check.due("wayAt(1, 0, -1)", x.wayAt(1, 0, -1), -2);
        Check.due("wayAt(1, 2, -1): BAD_VALUE first", x.wayAt(1, 2, -1), -2);
        Check.due("wayAt(1, 2, 0)", x.wayAt(1, 2, 0), -5);
        Check.due("wayAt(1, 0, 1)", x.wayAt(1, 0, 1), -5);
        Check.due("wayAt(1, 1, 3)", x.wayAt(1, 1, 3), -5);
        Check.due("wayAt(1, MAX, MAX)", x.wayAt(1, Integer.MAX_VALUE, Integer.MAX_VALUE), -5);
    }

    /** No call leans on the number of the call before. */
    private static void eachCallForItself() {
        Check.due("wayLength(700, 0) at once", new ScoreNumbers().wayLength(700, 0), 4);
        Check.due("wayAt(50, 0, 1) at once", new ScoreNumbers().wayAt(50, 0, 1), 'c');
        Check.due("styled(50, 2) at once", new ScoreNumbers().styled(50, 2), 2);
        ScoreNumbers x = new ScoreNumbers();
        Check.due("ways(969)", x.ways(969), 8);
        Check.due("wayLength(400, 1)", x.wayLength(400, 1), -5);
        Check.due("ways(969)", x.ways(969), 8);
        Check.due("wayAt(400, 1, 0)", x.wayAt(400, 1, 0), -5);
        Check.due("ways(969)", x.ways(969), 8);
        Check.due("understood(0, 400, 1)", x.understood(0, 400, 1), -5);
        Check.due("ways(969)", x.ways(969), 8);
        Check.due("styled(400, 1)", x.styled(400, 1), 0);
    }

    private static void hearersAndTextDoNotMatter() {
        ScoreNumbers x = new ScoreNumbers();
        for (int hearer = 0; hearer < 6; hearer++) {
            for (int word = 0; word < 3; word++) {
                x.unlearn(hearer, word);
            }
            x.attend(hearer, 1);
        }
        Check.write(x, "HbG&");
        ways(x, 50, "HcS", "bS+j", "j-cS");
        ways(x, 600, "HbG", "G&jS", "G&HjS+j", "G&j-HkS");
        styles(x, 600, 0, 0, 3, 1);
        styles(x, 19, 0, 2, 1, 0);
    }

    private static void ways(int number, String... due) {
        ways(new ScoreNumbers(), number, due);
    }

    private static void ways(ScoreNumbers x, int number, String... due) {
        Check.due("ways(" + number + ")", x.ways(number), due.length);
        for (int place = 0; place < due.length; place++) {
            String got = Check.way(x, number, place);
            if (!got.equals(due[place])) {
                Check.tell("way " + place + " of " + number + " is " + got + ", due is " + due[place]);
            }
            Check.due("wayLength(" + number + ", " + place + ")", x.wayLength(number, place), due[place].length());
        }
        Check.due("wayLength(" + number + ", " + due.length + ")", x.wayLength(number, due.length), -5);
    }

    private static void someWays() {
        ways(1, "a", "s-S");
        ways(19, "s", "a-S", "k-HbS");
        ways(20, "S", "j-HbS");
        ways(30, "HbS", "S+j", "j-bS");
        ways(50, "HcS", "bS+j", "j-cS");
        ways(399, "sS+s");
        ways(400, "G");
        ways(401, "G&a", "G&s-S");
        ways(600, "HbG", "G&jS", "G&HjS+j", "G&j-HkS");
        ways(7999, "sG&sS+s");
    }

    private static void styles(int number, int first, int half, int less, int plain) {
        styles(new ScoreNumbers(), number, first, half, less, plain);
    }

    private static void styles(ScoreNumbers x, int number, int first, int half, int less, int plain) {
        Check.due("styled(" + number + ", 0)", x.styled(number, 0), first);
        Check.due("styled(" + number + ", 1)", x.styled(number, 1), half);
        Check.due("styled(" + number + ", 2)", x.styled(number, 2), less);
        Check.due("styled(" + number + ", 3)", x.styled(number, 3), plain);
    }

    private static void someStyles() {
        styles(1, 0, 0, 1, 0);
        styles(19, 0, 2, 1, 0);
        styles(30, 0, 0, 2, 1);
        styles(400, 0, 0, 0, 0);
        styles(600, 0, 0, 3, 1);
        styles(7999, 0, 0, 0, 0);
    }

    private static void allNumbers() {
        for (int number = 1; number <= 7999; number++) {
            ScoreNumbers x = new ScoreNumbers();
            List<String> due = Oracle.WAYS.get(number);
            ways(number, due.toArray(new String[0]));
            for (int style = 0; style < 4; style++) {
                Check.due("styled(" + number + ", " + style + ")",
                        x.styled(number, style), Oracle.styled(number, style));
            }
        }
    }
}
