import java.util.List;

/** Promises 19 understood, 20 understoodText, 21 bestWay, 22 commonWay, 23 reach, 24 untellable. */
public final class UnderstandingTest {
    private static final int[] NO_NUMBERS = {0, -1, 8000, Integer.MIN_VALUE, Integer.MAX_VALUE};
    private static final int[] NO_HEARERS = {-1, 6, Integer.MIN_VALUE, Integer.MAX_VALUE};

    private UnderstandingTest() {
    }

    public static void main(String[] args) {
        wrongValues();
        unknownWords();
        attentions();
        bestWays();
        commonWays();
        reaches();
        untellables();
        allWaysForAllHearers();
        Check.end();
    }

    private static void wrongValues() {
        ScoreNumbers x = new ScoreNumbers();
        Check.write(x, "S");
        for (int h : NO_HEARERS) {
            Check.due("understood(" + h + ", 1, 0)", x.understood(h, 1, 0), -1);
            Check.due("understood(" + h + ", 0, -1): NO_SUCH first", x.understood(h, 0, -1), -1);
            Check.due("understoodText(" + h + ")", x.understoodText(h), -1);
            Check.due("bestWay(" + h + ", 1)", x.bestWay(h, 1), -1);
            Check.due("bestWay(" + h + ", 0): NO_SUCH first", x.bestWay(h, 0), -1);
            Check.due("untellable(" + h + ", 1, 1)", x.untellable(h, 1, 1), -1);
            Check.due("untellable(" + h + ", 0, 0): NO_SUCH first", x.untellable(h, 0, 0), -1);
        }
        for (int n : NO_NUMBERS) {
            Check.due("understood(0, " + n + ", 0)", x.understood(0, n, 0), -2);
            Check.due("bestWay(0, " + n + ")", x.bestWay(0, n), -2);
            Check.due("commonWay(" + n + ")", x.commonWay(n), -2);
            Check.due("reach(" + n + ", 0)", x.reach(n, 0), -2);
            Check.due("reach(" + n + ", 4): NO_SUCH first", x.reach(n, 4), -1);
            Check.due("untellable(0, " + n + ", 1)", x.untellable(0, n, 1), -2);
        }
        Check.due("understood(0, 1, -1)", x.understood(0, 1, -1), -2);
        Check.due("understood(0, 1, 2)", x.understood(0, 1, 2), -5);
        Check.due("understood(0, 1, MAX)", x.understood(0, 1, Integer.MAX_VALUE), -5);
        Check.due("reach(1, -1)", x.reach(1, -1), -1);
        Check.due("reach(1, 4)", x.reach(1, 4), -1);
        Check.due("untellable(0, 1, 0)", x.untellable(0, 1, 0), -2);
        Check.due("untellable(0, 1, 41)", x.untellable(0, 1, 41), -2);
        Check.due("untellable(0, 1, MAX)", x.untellable(0, 1, Integer.MAX_VALUE), -2);
        Check.due("untellable(0, 1, MIN)", x.untellable(0, 1, Integer.MIN_VALUE), -2);
        Check.write(x, "Sx");
        Check.due("understoodText(0) of Sx", x.understoodText(0), -3);
        Check.due("understoodText(6) of Sx: NO_SUCH first", x.understoodText(6), -1);
        Check.write(x, "");
        Check.due("understoodText(0) of the empty text", x.understoodText(0), -3);
    }

    private static void unknown(String text, int half, int less, int great, int all) {
        ScoreNumbers x = new ScoreNumbers();
        x.unlearn(0, 0);
        x.unlearn(1, 1);
        x.unlearn(2, 2);
        for (int word = 0; word < 3; word++) {
            x.unlearn(3, word);
        }
        Check.write(x, text);
        Check.due("understoodText without H of " + text, x.understoodText(0), half);
        Check.due("understoodText without - of " + text, x.understoodText(1), less);
        Check.due("understoodText without G of " + text, x.understoodText(2), great);
        Check.due("understoodText without all of " + text, x.understoodText(3), all);
        Check.due("understoodText of " + text, x.understoodText(4), Oracle.MEANINGS.get(text));
        Check.due("sum(0)", x.sum(0), 0);
    }

    private static void unknownWords() {
        unknown("h", 8, 8, 8, 8);
        unknown("HcS", 60, 50, 50, 60);
        unknown("HcS+b", 62, 52, 52, 62);
        unknown("b-S", 18, 22, 18, 22);
        unknown("s-HsS", 361, 389, 351, 399);
        unknown("G", 400, 400, 20, 20);
        unknown("cG", 1200, 1200, 60, 60);
        unknown("HcG", 1200, 1000, 50, 60);
        unknown("G&b-S", 418, 422, 38, 42);
        unknown("HcG&HdS", 1280, 1070, 120, 140);
        unknown("HcG&a-HdS", 1279, 1071, 119, 141);
        unknown("bG&HdS", 880, 870, 110, 120);
        unknown("HbG&dS", 880, 680, 110, 120);
    }

    private static void attentions() {
        ScoreNumbers x = new ScoreNumbers();
        Check.write(x, "HsG&s-HsS");
        int[] due = {-5, -5, 7400, -5, 7419, -5, -5, -5, 7751, 7751, 7751, 7751};
        for (int attention = 1; attention <= 12; attention++) {
            x.attend(0, attention);
            Check.due("understoodText(0), attention " + attention, x.understoodText(0), due[attention - 1]);
        }
        // A word that is not known is heard all the same: "Hb" is no spoken number, though "b" is one.
        x.unlearn(0, 0);
        x.attend(0, 2);
        Check.due("understood(0, 30, 0) of Hb", x.understood(0, 30, 0), -5);
        x.attend(0, 1);
        Check.due("understood(0, 40, 0) of b", x.understood(0, 40, 0), 2);
    }

    private static void bestWays() {
        ScoreNumbers x = new ScoreNumbers();
        Check.due("bestWay(0, 30)", x.bestWay(0, 30), 0);
        x.unlearn(0, 0);
        Check.due("bestWay(0, 30) without H", x.bestWay(0, 30), 1);
        x.attend(0, 2);
        Check.due("bestWay(0, 30) of 2 characters", x.bestWay(0, 30), -5);
        x.unlearn(1, 2);
        Check.due("bestWay(1, 400) without G", x.bestWay(1, 400), -5);
        x.unlearn(2, 1);
        Check.due("bestWay(2, 50) without -", x.bestWay(2, 50), 0);
        Check.due("sum(3)", x.sum(3), 0);
    }

    private static void commonWays() {
        ScoreNumbers x = new ScoreNumbers();
        Check.due("commonWay(30)", x.commonWay(30), 0);
        x.unlearn(0, 0);
        Check.due("commonWay(30): five of six", x.commonWay(30), 1);
        x.attend(0, 2);
        Check.due("commonWay(30): all the same five", x.commonWay(30), 0);
        for (int h = 0; h < 6; h++) {
            x.attend(h, 2);
        }
        Check.due("commonWay(30): nobody", x.commonWay(30), 0);
        for (int h = 0; h < 6; h++) {
            x.attend(h, 12);
            x.unlearn(h, 0);
            x.unlearn(h, 2);
        }
        x.learn(5, 0);
        Check.due("commonWay(30): without H", x.commonWay(30), 1);
        for (int h = 0; h < 5; h++) {
            x.attend(h, 1);
        }
        x.unlearn(5, 0);
        Check.due("commonWay(30): one alone", x.commonWay(30), 1);
        Check.due("commonWay(600): nobody", x.commonWay(600), 0);
    }

    private static void reaches() {
        ScoreNumbers x = new ScoreNumbers();
        Check.due("reach(30, 0)", x.reach(30, 0), 6);
        x.unlearn(0, 0);
        x.unlearn(1, 1);
        x.unlearn(2, 1);
        x.attend(3, 2);
        Check.due("reach(30, 0): HbS", x.reach(30, 0), 4);
        Check.due("reach(30, 1): HbS", x.reach(30, 1), 4);
        Check.due("reach(30, 2): j-bS", x.reach(30, 2), 3);
        Check.due("reach(30, 3): S+j", x.reach(30, 3), 5);
        Check.due("reach(5, 3)", x.reach(5, 3), 6);
    }

    private static void untellables() {
        ScoreNumbers x = new ScoreNumbers();
        Check.due("untellable(0, 1, 40)", x.untellable(0, 1, 40), 0);
        x.attend(0, 1);
        Check.due("untellable(0, 1, 20)", x.untellable(0, 1, 20), 0);
        Check.due("untellable(0, 20, 2)", x.untellable(0, 20, 2), 1);
        Check.due("untellable(0, 21, 1)", x.untellable(0, 21, 1), 1);
        Check.due("untellable(0, 7999, 1)", x.untellable(0, 7999, 1), 1);
        Check.due("untellable(0, 7999, 40)", x.untellable(0, 7999, 40), 1);
        Check.due("untellable(0, 7961, 40)", x.untellable(0, 7961, 40), 39);
        Check.due("untellable(0, 7960, 40)", x.untellable(0, 7960, 40), 40);
        Check.due("untellable(0, 361, 40)", x.untellable(0, 361, 40), 39);
    }

    /** Each way of every number, for hearers of every make. */
    private static void allWaysForAllHearers() {
        for (int number = 1; number <= 7999; number++) {
            ScoreNumbers x = new ScoreNumbers();
            List<String> ways = Oracle.WAYS.get(number);
            for (int h = 0; h < 6; h++) {
                int kind = (number + h) % 8;
                boolean half = (kind & 1) != 0;
                boolean less = (kind & 2) != 0;
                boolean great = (kind & 4) != 0;
                int attention = (number + 5 * h) % 12 + 1;
                forget(x, h, half, less, great);
                x.attend(h, attention);
                for (int place = 0; place < ways.size(); place++) {
                    int heard = Oracle.heard(ways.get(place), attention, half, less, great);
                    Check.due("understood(" + h + ", " + number + ", " + place + ") of kind " + kind
                            + " and attention " + attention, x.understood(h, number, place), heard == 0 ? -5 : heard);
                }
            }
        }
    }

    private static void forget(ScoreNumbers x, int hearer, boolean half, boolean less, boolean great) {
        if (!half) {
            x.unlearn(hearer, 0);
        }
        if (!less) {
            x.unlearn(hearer, 1);
        }
        if (!great) {
            x.unlearn(hearer, 2);
        }
    }
}
