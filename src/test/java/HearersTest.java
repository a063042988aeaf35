/** Promises 1 a new object, 2 learn, 3 unlearn, 4 attend, 5 set, 18 hearer, 26 sum, 27 patience. */
public final class HearersTest {
    private static final int[] NO_HEARERS = {-1, 6, Integer.MIN_VALUE, Integer.MAX_VALUE};

    private HearersTest() {
    }

    public static void main(String[] args) {
        newObject();
        words();
        attention();
        patience();
        hearer();
        sums();
        wrongCallsChangeNothing();
        Check.end();
    }

    private static void newObject() {
        ScoreNumbers x = new ScoreNumbers();
        for (int h = 0; h < 6; h++) {
            for (int what = 0; what <= 8; what++) {
                int due = what < 3 ? 1 : what == 6 ? 12 : 0;
                Check.due("hearer(" + h + ", " + what + ") of a new object", x.hearer(h, what), due);
            }
        }
        Check.due("patience() of a new object", x.patience(), 2);
        Check.due("log(0, 0) of a new object", x.log(0, 0), -5);
        Check.due("undo() of a new object", x.undo(), -5);
        Check.due("fault() of a new object", x.fault(), 0);
        Check.due("meaning() of a new object", x.meaning(), -3);
        Check.due("clearText() of a new object", x.clearText(), 0);
        Check.due("sum(0) of a new object", x.sum(0), 0);
        Check.due("sum(2) of a new object", x.sum(2), 18);
        Check.due("share() of a new object", x.share(), 1.0f);
    }

    private static void words() {
        ScoreNumbers x = new ScoreNumbers();
        Check.due("unlearn(5, 2)", x.unlearn(5, 2), 2);
        Check.due("unlearn(5, 2) again", x.unlearn(5, 2), 2);
        Check.due("unlearn(5, 0)", x.unlearn(5, 0), 1);
        Check.due("unlearn(5, 1)", x.unlearn(5, 1), 0);
        Check.due("hearer(5, 1)", x.hearer(5, 1), 0);
        Check.due("hearer(4, 1)", x.hearer(4, 1), 1);
        Check.due("learn(5, 1)", x.learn(5, 1), 1);
        Check.due("hearer(5, 0)", x.hearer(5, 0), 0);
        Check.due("hearer(5, 1) known", x.hearer(5, 1), 1);
        Check.due("hearer(5, 2)", x.hearer(5, 2), 0);
        Check.due("learn(5, 1) again", x.learn(5, 1), 1);
        Check.due("learn(0, 0) of a known word", x.learn(0, 0), 3);
        for (int h : NO_HEARERS) {
            Check.due("learn(" + h + ", 0)", x.learn(h, 0), -1);
            Check.due("unlearn(" + h + ", 0)", x.unlearn(h, 0), -1);
        }
        int[] noWords = {-1, 3, Integer.MIN_VALUE, Integer.MAX_VALUE};
        for (int w : noWords) {
            Check.due("learn(0, " + w + ")", x.learn(0, w), -1);
            Check.due("unlearn(0, " + w + ")", x.unlearn(0, w), -1);
        }
        doubtsOfWords();
    }

    /** learn and unlearn take the doubt away, of their word alone. */
    private static void doubtsOfWords() {
        for (int known = 0; known < 2; known++) {
            ScoreNumbers x = new ScoreNumbers();
            x.set(9);
            x.unlearn(0, 0);
            x.unlearn(0, 1);
            Check.write(x, "a-HbS");
            Check.due("tellText(0)", x.tellText(0), 0);
            Check.due("hearer(0, 3) after an error", x.hearer(0, 3), 1);
            Check.due("hearer(0, 4) after an error", x.hearer(0, 4), 1);
            if (known == 1) {
                Check.due("learn(0, 0) with a doubt", x.learn(0, 0), 2);
            } else {
                Check.due("unlearn(0, 0) with a doubt", x.unlearn(0, 0), 1);
            }
            Check.due("hearer(0, 0)", x.hearer(0, 0), known);
            Check.due("hearer(0, 3) without doubt", x.hearer(0, 3), 0);
            Check.due("hearer(0, 4) still in doubt", x.hearer(0, 4), 1);
            Check.due("learn(0, 2): no doubt counts", x.learn(0, 2), 1 + known);
        }
        ScoreNumbers x = new ScoreNumbers();
        x.unlearn(0, 0);
        x.tell(0, 30, 0);
        Check.due("hearer(0, 3) after an error", x.hearer(0, 3), 1);
        Check.due("learn(0, 1): the doubt of H does not count", x.learn(0, 1), 2);
        Check.due("unlearn(0, 2): the doubt of H does not count", x.unlearn(0, 2), 1);
        for (int word = 0; word < 3; word++) {
            Check.due("unlearn(1, " + word + ")", x.unlearn(1, word), 2 - word);
        }
    }

    private static void attention() {
        ScoreNumbers x = new ScoreNumbers();
        Check.due("attend(3, 1)", x.attend(3, 1), 12);
        Check.due("attend(3, 12)", x.attend(3, 12), 1);
        Check.due("attend(3, 7)", x.attend(3, 7), 12);
        Check.due("hearer(3, 6)", x.hearer(3, 6), 7);
        Check.due("hearer(2, 6)", x.hearer(2, 6), 12);
        int[] wrong = {0, 13, -1, Integer.MIN_VALUE, Integer.MAX_VALUE};
        for (int attention : wrong) {
            Check.due("attend(3, " + attention + ")", x.attend(3, attention), -2);
            Check.due("attend(6, " + attention + "): NO_SUCH first", x.attend(6, attention), -1);
        }
        for (int h : NO_HEARERS) {
            Check.due("attend(" + h + ", 5)", x.attend(h, 5), -1);
        }
        Check.due("hearer(3, 6) after wrong calls", x.hearer(3, 6), 7);
    }

    private static void patience() {
        ScoreNumbers x = new ScoreNumbers();
        Check.due("set(1)", x.set(1), 2);
        Check.due("patience()", x.patience(), 1);
        Check.due("set(9)", x.set(9), 1);
        Check.due("patience()", x.patience(), 9);
        int[] wrong = {0, 10, -1, Integer.MIN_VALUE, Integer.MAX_VALUE};
        for (int patience : wrong) {
            Check.due("set(" + patience + ")", x.set(patience), -2);
        }
        Check.due("patience() after wrong calls", x.patience(), 9);
    }

    private static void hearer() {
        ScoreNumbers x = new ScoreNumbers();
        int[] wrong = {-1, 9, Integer.MIN_VALUE, Integer.MAX_VALUE};
        for (int what : wrong) {
            Check.due("hearer(0, " + what + ")", x.hearer(0, what), -2);
            Check.due("hearer(-1, " + what + "): NO_SUCH first", x.hearer(-1, what), -1);
        }
        for (int h : NO_HEARERS) {
            Check.due("hearer(" + h + ", 0)", x.hearer(h, 0), -1);
        }
    }

    private static void sums() {
        ScoreNumbers x = new ScoreNumbers();
        x.set(9);
        x.unlearn(0, 0);
        x.unlearn(5, 1);
        x.unlearn(5, 2);
        x.tell(0, 50, 1);
        x.tell(0, 50, 3);
        x.tell(5, 799, 2);
        Check.due("sum(0)", x.sum(0), 3);
        Check.due("sum(1)", x.sum(1), 2);
        Check.due("sum(2)", x.sum(2), 15);
        Check.due("sum(3)", x.sum(3), 3);
        int[] wrong = {-1, 4, Integer.MIN_VALUE, Integer.MAX_VALUE};
        for (int what : wrong) {
            Check.due("sum(" + what + ")", x.sum(what), -2);
        }
    }

    /** A method that returns an error code records nothing either. */
    private static void wrongCallsChangeNothing() {
        ScoreNumbers x = new ScoreNumbers();
        x.learn(6, 0);
        x.learn(0, 3);
        x.unlearn(-1, 0);
        x.unlearn(0, -1);
        x.attend(6, 1);
        x.attend(0, 13);
        x.set(10);
        x.tell(6, 1, 0);
        x.tell(0, 1, 4);
        x.tell(0, 8000, 0);
        x.tellText(0);
        x.tellText(6);
        Check.due("sum(0) after wrong calls", x.sum(0), 0);
        Check.due("sum(2) after wrong calls", x.sum(2), 18);
        Check.due("log(0, 0) after wrong calls", x.log(0, 0), -5);
        Check.due("undo() after wrong calls", x.undo(), -5);
    }
}
