/** Promises 6 tell, 7 tellText, 25 log, 28 share. */
public final class TellingTest {
    private TellingTest() {
    }

    public static void main(String[] args) {
        wrongValues();
        styles();
        learningByErrors();
        doubtsOfTheWholeText();
        eachWordIsLearntForItself();
        patienceIsLookedAtWhenADoubtGrows();
        texts();
        log();
        logKeepsTen();
        share();
        Check.end();
    }

    private static void wrongValues() {
        ScoreNumbers x = new ScoreNumbers();
        int[] outside = {-1, 6, Integer.MIN_VALUE, Integer.MAX_VALUE};
        for (int hearer : outside) {
            Check.due("tell(" + hearer + ", 1, 0)", x.tell(hearer, 1, 0), -1);
            Check.due("tell(" + hearer + ", 0, 0): NO_SUCH first", x.tell(hearer, 0, 0), -1);
            Check.due("tellText(" + hearer + "): NO_SUCH first", x.tellText(hearer), -1);
        }
        Check.due("tell(0, 1, -1)", x.tell(0, 1, -1), -1);
        Check.due("tell(0, 1, 4)", x.tell(0, 1, 4), -1);
        Check.due("tell(0, 0, 4): NO_SUCH first", x.tell(0, 0, 4), -1);
        Check.due("tell(0, 0, 0)", x.tell(0, 0, 0), -2);
        Check.due("tell(0, 8000, 0)", x.tell(0, 8000, 0), -2);
        Check.due("tell(0, MIN, 0)", x.tell(0, Integer.MIN_VALUE, 0), -2);
        Check.due("tell(0, MAX, 3)", x.tell(0, Integer.MAX_VALUE, 3), -2);
        Check.due("tellText(0) of the empty text", x.tellText(0), -3);
        Check.write(x, "G&");
        Check.due("tellText(0) of G&", x.tellText(0), -3);
        Check.due("sum(0)", x.sum(0), 0);
        Check.due("undo()", x.undo(), -5);
    }

    private static void styles() {
        ScoreNumbers x = new ScoreNumbers();
        x.unlearn(0, 0);
        x.unlearn(1, 1);
        Check.due("tell(0, 30, 0)", x.tell(0, 30, 0), 0);
        Check.due("log(0, 3)", x.log(0, 3), 40);
        Check.due("tell(0, 30, 2)", x.tell(0, 30, 2), 1);
        Check.due("tell(0, 30, 3)", x.tell(0, 30, 3), 1);
        Check.due("tell(1, 19, 1)", x.tell(1, 19, 1), 0);
        Check.due("log(0, 3)", x.log(0, 3), 41);
        Check.due("tell(1, 19, 0)", x.tell(1, 19, 0), 1);
        Check.due("hearer(0, 7)", x.hearer(0, 7), 3);
        Check.due("hearer(0, 8)", x.hearer(0, 8), 1);
        Check.due("hearer(0, 3)", x.hearer(0, 3), 1);
        Check.due("hearer(1, 4)", x.hearer(1, 4), 1);
        Check.due("hearer(1, 3) of a known word", x.hearer(1, 3), 0);
    }

    private static void learningByErrors() {
        ScoreNumbers x = new ScoreNumbers();
        x.set(3);
        x.unlearn(0, 0);
        x.unlearn(0, 2);
        Check.due("tell(0, 600, 0)", x.tell(0, 600, 0), 0);
        Check.due("log(0, 3): bS", x.log(0, 3), 40);
        Check.due("tell(0, 50, 0)", x.tell(0, 50, 0), 0);
        Check.due("hearer(0, 3)", x.hearer(0, 3), 2);
        Check.due("hearer(0, 5)", x.hearer(0, 5), 1);
        Check.due("log(0, 4)", x.log(0, 4), 0);
        Check.due("tell(0, 600, 0)", x.tell(0, 600, 0), 0);
        Check.due("hearer(0, 0) is learnt", x.hearer(0, 0), 1);
        Check.due("hearer(0, 3) is 0 again", x.hearer(0, 3), 0);
        Check.due("hearer(0, 2) not yet", x.hearer(0, 2), 0);
        Check.due("hearer(0, 5)", x.hearer(0, 5), 2);
        Check.due("log(0, 4)", x.log(0, 4), 1);
        Check.due("tell(0, 600, 0)", x.tell(0, 600, 0), 0);
        Check.due("log(0, 3): HbS", x.log(0, 3), 30);
        Check.due("log(0, 4)", x.log(0, 4), 1);
        Check.due("tell(0, 600, 0)", x.tell(0, 600, 0), 1);
        Check.due("hearer(0, 8)", x.hearer(0, 8), 4);
        Check.due("hearer(0, 7)", x.hearer(0, 7), 5);
    }

    /** The words count that stand in the whole text, not only in what was heard. */
    private static void doubtsOfTheWholeText() {
        ScoreNumbers x = new ScoreNumbers();
        x.set(9);
        x.unlearn(0, 1);
        x.unlearn(0, 0);
        x.attend(0, 1);
        Check.write(x, "G&a-HbS");
        Check.due("tellText(0)", x.tellText(0), 0);
        Check.due("log(0, 3)", x.log(0, 3), 400);
        Check.due("hearer(0, 3)", x.hearer(0, 3), 1);
        Check.due("hearer(0, 4)", x.hearer(0, 4), 1);
        Check.due("hearer(0, 5) of a known word", x.hearer(0, 5), 0);
        Check.write(x, "S+a");
        Check.due("tellText(0) without such a word", x.tellText(0), 0);
        Check.due("hearer(0, 3)", x.hearer(0, 3), 1);
        Check.due("hearer(0, 4)", x.hearer(0, 4), 1);
        Check.due("hearer(0, 8)", x.hearer(0, 8), 2);
        Check.write(x, "S");
        Check.due("tellText(0) of S", x.tellText(0), 1);
        Check.due("hearer(0, 8)", x.hearer(0, 8), 2);
    }

    private static void eachWordIsLearntForItself() {
        int[] numbers = {30, 18, 400};
        int[] styles = {0, 2, 0};
        for (int word = 0; word < 3; word++) {
            ScoreNumbers x = new ScoreNumbers();
            x.unlearn(0, word);
            for (int telling = 0; telling < 3; telling++) {
                Check.due("hearer(0, " + word + ")", x.hearer(0, word), telling < 2 ? 0 : 1);
                Check.due("hearer(0, 3 + " + word + ")", x.hearer(0, 3 + word), telling % 2);
                Check.due("tell(0, " + numbers[word] + ", " + styles[word] + ")",
                        x.tell(0, numbers[word], styles[word]), telling < 2 ? 0 : 1);
            }
            Check.due("sum(2)", x.sum(2), 18);
            Check.due("sum(3)", x.sum(3), 0);
        }
        ScoreNumbers x = new ScoreNumbers();
        for (int word = 0; word < 3; word++) {
            x.unlearn(3, word);
        }
        Check.write(x, "HbG&a-HbS");
        Check.due("tellText(3)", x.tellText(3), 0);
        Check.due("sum(3)", x.sum(3), 3);
        Check.due("tellText(3)", x.tellText(3), 0);
        Check.due("sum(2): all three at once", x.sum(2), 18);
        Check.due("sum(3)", x.sum(3), 0);
        Check.due("tellText(3)", x.tellText(3), 1);
    }

    private static void patienceIsLookedAtWhenADoubtGrows() {
        ScoreNumbers x = new ScoreNumbers();
        x.set(9);
        x.unlearn(0, 0);
        for (int i = 0; i < 4; i++) {
            Check.due("tell(0, 50, 0)", x.tell(0, 50, 0), 0);
        }
        x.set(2);
        Check.due("hearer(0, 0) after set", x.hearer(0, 0), 0);
        Check.due("hearer(0, 3) after set", x.hearer(0, 3), 4);
        Check.due("tell(0, 50, 0)", x.tell(0, 50, 0), 0);
        Check.due("hearer(0, 0)", x.hearer(0, 0), 1);
        Check.due("hearer(0, 3)", x.hearer(0, 3), 0);
        x.unlearn(1, 1);
        x.set(1);
        Check.due("tell(1, 19, 2)", x.tell(1, 19, 2), 0);
        Check.due("hearer(1, 1) at once", x.hearer(1, 1), 1);
    }

    private static void texts() {
        ScoreNumbers x = new ScoreNumbers();
        Check.write(x, "HsG&s-HsS");
        Check.due("tellText(5)", x.tellText(5), 1);
        Check.due("log(0, 0)", x.log(0, 0), 5);
        Check.due("log(0, 1)", x.log(0, 1), 7751);
        Check.due("log(0, 2)", x.log(0, 2), 9);
        Check.due("log(0, 3)", x.log(0, 3), 7751);
        Check.due("clearText(): the text stays", x.clearText(), 9);
        x.attend(4, 1);
        Check.write(x, "HbS");
        Check.due("tellText(4)", x.tellText(4), 0);
        Check.due("log(0, 3) of nothing", x.log(0, 3), 0);
        Check.due("log(0, 1)", x.log(0, 1), 30);
    }

    private static void log() {
        ScoreNumbers x = new ScoreNumbers();
        x.unlearn(2, 2);
        x.set(1);
        Check.due("log(0, 0)", x.log(0, 0), -5);
        Check.due("tell(2, 400, 0)", x.tell(2, 400, 0), 0);
        Check.due("tell(3, 21, 0)", x.tell(3, 21, 0), 1);
        int[][] due = {{3, 21, 3, 21, 0}, {2, 400, 1, 20, 1}};
        for (int ago = 0; ago < 2; ago++) {
            for (int what = 0; what < 5; what++) {
                Check.due("log(" + ago + ", " + what + ")", x.log(ago, what), due[ago][what]);
            }
        }
        Check.due("log(2, 0)", x.log(2, 0), -5);
        Check.due("log(MAX, 4)", x.log(Integer.MAX_VALUE, 4), -5);
        Check.due("log(-1, 0)", x.log(-1, 0), -2);
        Check.due("log(MIN, 0)", x.log(Integer.MIN_VALUE, 0), -2);
        Check.due("log(0, -1)", x.log(0, -1), -2);
        Check.due("log(0, 5)", x.log(0, 5), -2);
        Check.due("log(9, 5): BAD_VALUE first", x.log(9, 5), -2);
    }

    private static void logKeepsTen() {
        ScoreNumbers x = new ScoreNumbers();
        for (int number = 1; number <= 33; number++) {
            Check.due("tell", x.tell(number % 6, number, 3), 1);
            int kept = Math.min(number, 10);
            for (int ago = 0; ago < kept; ago++) {
                Check.due("log(" + ago + ", 1) after " + number, x.log(ago, 1), number - ago);
            }
            Check.due("log(" + kept + ", 1) after " + number, x.log(kept, 1), -5);
        }
        Check.due("sum(0)", x.sum(0), 33);
    }

    private static void share() {
        ScoreNumbers x = new ScoreNumbers();
        Check.due("share() without tellings", x.share(), 1.0f);
        x.attend(0, 1);
        x.tell(0, 21, 0);
        Check.due("share() of one error", x.share(), 0.0f);
        x.tell(1, 21, 0);
        Check.due("share()", x.share(), 0.5f);
        x.tell(2, 21, 0);
        Check.due("share()", x.share(), 2f / 3f);
        x.undo();
        Check.due("share() after undo", x.share(), 0.5f);
        x.undo();
        x.undo();
        Check.due("share() after undo of all tellings", x.share(), 1.0f);
    }
}
