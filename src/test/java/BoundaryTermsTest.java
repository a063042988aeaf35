import java.util.Collections;
import java.util.List;

/** The boundaries that the document names under "Terms": each sentence has a method of its own. */
public final class BoundaryTermsTest {
    private static final String[] COUNTED = {"%cS", "H%cS", "%cG", "H%cG", "G&%cS", "G&H%cS", "b-%cS", "b-H%cS",
        "%cS+b", "H%cS+b", "%cG&b", "H%cG&b", "G&b-%cS", "G&b-H%cS"};
    private static final String[] SINGLE = {"%c", "S+%c", "HcS+%c", "%c-S", "%c-HcS", "G&%c", "G&S+%c", "G&%c-S"};

    private BoundaryTermsTest() {
    }

    public static void main(String[] args) {
        unitsFromAToS();
        noCountIsOrHasTheUnitA();
        oneScoreAndOneGreat();
        halvesFromTheSecond();
        atMostOneOfEach();
        meaningsFrom1To7999();
        faultIsTheFirstSuchCharacter();
        faultOfAnIncompleteText();
        everyNumberHasWays();
        shortWaysFirst();
        sameLengthByFirstUnlikeCharacter();
        styleHalfOrTheFirst();
        styleLessOrTheFirst();
        stylePlainIsAlwaysThere();
        Check.end();
    }

    private static void text(String text, int fault, int meaning) {
        ScoreNumbers x = new ScoreNumbers();
        Check.write(x, text);
        Check.due("fault() of '" + text + "'", x.fault(), fault);
        Check.due("meaning() of '" + text + "'", x.meaning(), meaning);
        Check.due("fault() again of '" + text + "'", x.fault(), fault);
    }

    private static void faultOf(String form, char unit) {
        text(String.format(form, unit), form.indexOf('%'), -3);
    }

    private static void faultless(String form, char unit) {
        String text = String.format(form, unit);
        text(text, -5, Oracle.MEANINGS.get(text));
    }

    private static void unitsFromAToS() {
        Check.sentence("unit = one of the letters a to s");
        for (String form : SINGLE) {
            faultOf(form, (char) ('a' - 1));
            faultless(form, 'a');
            faultless(form, 's');
            faultOf(form, 't');
        }
        for (String form : COUNTED) {
            faultless(form, 's');
            faultOf(form, 't');
        }
        Check.sentence("The units a to s mean 1 to 19");
        text("a", -5, 1);
        text("s", -5, 19);
    }

    private static void noCountIsOrHasTheUnitA() {
        Check.sentence("A count must not consist of, or contain, the unit a");
        for (String form : COUNTED) {
            boolean isHalved = form.contains("H%c");
            boolean isBehindLess = form.contains("-%c");
            boolean mayBeUnit = !isHalved && !isBehindLess;
            // An a that may be a unit is no fault, only the word that would make it a count.
            text(String.format(form, 'a'), form.indexOf('%') + (mayBeUnit ? 1 : 0), -3);
            faultless(form, 'b');
        }
    }

    private static void oneScoreAndOneGreat() {
        Check.sentence("One score is said \"S\", and one great \"G\"");
        text("S", -5, 20);
        text("G", -5, 400);
        text("G&S", -5, 420);
        text("G&S+a", -5, 421);
        text("G&a-S", -5, 419);
        text("HS", 1, -3);
        text("HG", 1, -3);
    }

    private static void halvesFromTheSecond() {
        Check.sentence("\"H\", a unit u and \"S\" 20 * u - 10; \"H\", a unit u and \"G\" 400 * u - 200");
        text("bS", -5, 40);
        text("sS", -5, 380);
        text("HbS", -5, 30);
        text("HsS", -5, 370);
        text("bG", -5, 800);
        text("sG", -5, 7600);
        text("HbG", -5, 600);
        text("HsG", -5, 7400);
    }

    private static void atMostOneOfEach() {
        Check.sentence("number = great [ \"&\" small ] | small");
        text("G&G", 2, -3);
        text("G&bG", 3, -3);
        text("G&HbG", 4, -3);
        text("GG", 1, -3);
        text("bGG", 2, -3);
        text("G&", 2, -3);
        text("G&a&a", 3, -3);
        text("S&a", 1, -3);
        text("a&a", 1, -3);
        text("&a", 0, -3);
        Check.sentence("small = base | unit | base \"+\" unit | unit \"-\" base");
        text("S+a+a", 3, -3);
        text("S+a-S", 3, -3);
        text("a-S+a", 3, -3);
        text("a-a-S", 2, -3);
        text("a-b-S", 3, -3);
        text("S+S", 2, -3);
        text("S-a", 1, -3);
        text("S-S", 1, -3);
        text("a+S", 1, -3);
        text("a+a", 1, -3);
        text("ab", 1, -3);
        text("SS", 1, -3);
        text("G+a", 1, -3);
        text("a-G", 2, -3);
        text("a-bG", 3, -3);
        text("a-HbG", 4, -3);
        Check.sentence("count = unit | \"H\" unit");
        text("HHbS", 1, -3);
        text("bHS", 1, -3);
        text("HbcS", 2, -3);
        text("bcS", 1, -3);
        text("Hb", 2, -3);
        text("Hb+a", 2, -3);
        text("Hb-S", 2, -3);
        text("Hb&a", 2, -3);
    }

    private static void meaningsFrom1To7999() {
        Check.sentence("So each meaning is from 1 to 7999");
        text("a", -5, 1);
        text("s-S", -5, 1);
        text("sG&sS+s", -5, 7999);
        Check.due("the smallest meaning", Collections.min(Oracle.MEANINGS.values()), 1);
        Check.due("the largest meaning", Collections.max(Oracle.MEANINGS.values()), 7999);
    }

    private static void faultIsTheFirstSuchCharacter() {
        Check.sentence("The fault of a text is the index of the first character such that no spoken number begins"
                + " with the characters up to and including it");
        for (int character = 32; character <= 126; character++) {
            String text = "" + (char) character;
            text(text, Oracle.fault(text), Oracle.MEANINGS.getOrDefault(text, -3));
        }
        text(" S", 0, -3);
        text("S ", 1, -3);
        text("S+a ", 3, -3);
        text("tt", 0, -3);
        text("HsG&s-HsSS", 9, -3);
        text("HsG&HsS+s+", 9, -3);
        // The longest spoken numbers have 9 characters, a full text has 20.
        text("HsG&s-HsS           ", 9, -3);
        text("                    ", 0, -3);
        text("aaaaaaaaaaaaaaaaaaaa", 1, -3);
        text("GGGGGGGGGGGGGGGGGGGG", 1, -3);
    }

    private static void faultOfAnIncompleteText() {
        Check.sentence("the text is not complete (as the empty text), the fault is the length of the text");
        String longest = "HsG&s-HsS";
        for (int length = 0; length < longest.length(); length++) {
            String text = longest.substring(0, length);
            boolean complete = length == 3 || length == 5;
            text(text, complete ? -5 : length, complete ? Oracle.MEANINGS.get(text) : -3);
        }
        text(longest, -5, 7751);
        text("S+", 2, -3);
        text("s-", 2, -3);
        text("s-s", 3, -3);
        text("G&HsS+", 6, -3);
    }

    private static void everyNumberHasWays() {
        Check.sentence("The ways to say a number from 1 to 7999 are all spoken numbers that mean it");
        int most = 0;
        for (int number = 1; number <= 7999; number++) {
            int ways = new ScoreNumbers().ways(number);
            Check.due("ways(" + number + ")", ways, Oracle.WAYS.get(number).size());
            most = Math.max(most, ways);
        }
        Check.due("the most ways of a number", most, 8);
        for (int number : new int[] {1, 7999}) {
            ScoreNumbers x = new ScoreNumbers();
            List<String> due = Oracle.WAYS.get(number);
            for (int place = 0; place <= due.size(); place++) {
                String want = place < due.size() ? due.get(place) : "";
                Check.due("way " + place + " of " + number, Check.way(x, number, place), want);
            }
        }
    }

    private static void ordered(int number, String... ways) {
        ScoreNumbers x = new ScoreNumbers();
        for (int place = 0; place < ways.length; place++) {
            Check.due("way " + place + " of " + number, Check.way(x, number, place), ways[place]);
        }
        Check.due("ways(" + number + ")", x.ways(number), ways.length);
    }

    private static void shortWaysFirst() {
        Check.sentence("They are ordered by their lengths, the short ones first");
        ordered(19, "s", "a-S", "k-HbS");
        // "j" has a higher code than "H", but its way is shorter.
        ordered(10, "j", "j-S");
        ordered(40, "bS", "HbS+j", "j-HcS");
    }

    private static void sameLengthByFirstUnlikeCharacter() {
        Check.sentence("of the same length, by the codes of the first characters in which they are unlike");
        ordered(30, "HbS", "S+j", "j-bS");
        ordered(610, "G&HkS", "HbG&j", "G&j-kS", "G&jS+j", "HbG&j-S");
        ordered(600, "HbG", "G&jS", "G&HjS+j", "G&j-HkS");
        ordered(29, "S+i", "k-bS", "a-HbS");
    }

    private static void styled(int number, int style, int due) {
        Check.due("styled(" + number + ", " + style + ")", new ScoreNumbers().styled(number, style), due);
    }

    private static void styleHalfOrTheFirst() {
        Check.sentence("1 the first way that has an \"H\", or the first way if there is none");
        styled(50, 1, 0);
        styled(19, 1, 2);
        styled(40, 1, 1);
        styled(1, 1, 0);
        styled(400, 1, 0);
        styled(7999, 1, 0);
    }

    private static void styleLessOrTheFirst() {
        Check.sentence("2 the first way that has a \"-\", or the first way if there is none");
        styled(50, 2, 2);
        styled(19, 2, 1);
        styled(1, 2, 1);
        styled(400, 2, 0);
        styled(399, 2, 0);
        styled(7999, 2, 0);
    }

    private static void stylePlainIsAlwaysThere() {
        Check.sentence("3 the first way that has neither \"H\" nor \"-\" (there is always one)");
        for (int number = 1; number <= 7999; number++) {
            ScoreNumbers x = new ScoreNumbers();
            String way = Check.way(x, number, x.styled(number, 3));
            if (way.isEmpty() || way.contains("H") || way.contains("-")) {
                Check.tell("the way of style 3 of " + number + " is " + way);
            }
            for (int place = 0; place < x.styled(number, 3); place++) {
                String before = Check.way(x, number, place);
                if (!before.contains("H") && !before.contains("-")) {
                    Check.tell("the way of style 3 of " + number + " is not the first one");
                }
            }
        }
        Check.sentence("0 the first way");
        styled(1, 0, 0);
        styled(30, 0, 0);
        styled(7999, 0, 0);
    }
}
