/** The boundaries of what hearers hear and learn ("Hearers", "Telling") and of promises 1 to 7. */
public final class BoundaryHearersTest {
    private static final int[] NO_HEARERS = {-1, 6, Integer.MIN_VALUE, Integer.MAX_VALUE};
    private static final int[] NO_WORDS = {-1, 3, Integer.MIN_VALUE, Integer.MAX_VALUE};
    private static final int[] NO_STYLES = {-1, 4, Integer.MIN_VALUE, Integer.MAX_VALUE};
    private static final int[] NO_NUMBERS = {0, -1, 8000, Integer.MIN_VALUE, Integer.MAX_VALUE};

    private BoundaryHearersTest() {
    }

    public static void main(String[] args) {
        atFirst();
        asManyAsTheAttention();
        noSpokenNumber();
        halfUnknown();
        lessUnknown();
        greatUnknown();
        errorOnlyIfNotTheNumber();
        theWholeText();
        onlyWordsThatAreNotKnown();
        patienceOrMore();
        newObject();
        learn();
        unlearn();
        attend();
        set();
        tell();
        tellText();
        allCallsOfAnObject();
        Check.end();
    }

    private static void hears(String text, int attention, int unknown, int due) {
        ScoreNumbers x = new ScoreNumbers();
        forget(x, 0, unknown);
        x.attend(0, attention);
        Check.write(x, text);
        Check.due("understoodText(0) of " + text + ", attention " + attention + ", unknown " + unknown,
                x.understoodText(0), due);
    }

    /** The words whose bits are set become unknown. */
    private static void forget(ScoreNumbers x, int hearer, int unknown) {
        for (int word = 0; word < 3; word++) {
            if ((unknown >> word & 1) == 1) {
                x.unlearn(hearer, word);
            }
        }
    }

    private static void hearer(ScoreNumbers x, int hearer, int... due) {
        for (int what = 0; what < due.length; what++) {
            Check.due("hearer(" + hearer + ", " + what + ")", x.hearer(hearer, what), due[what]);
        }
    }

    private static void atFirst() {
        Check.sentence("at first, all words are known to all hearers ... (at first 12) ... (0 at first)");
        ScoreNumbers x = new ScoreNumbers();
        for (int hearer = 0; hearer < 6; hearer++) {
            hearer(x, hearer, 1, 1, 1, 0, 0, 0, 12, 0, 0);
        }
        Check.sentence("(2 at first)");
        Check.due("patience()", x.patience(), 2);
    }

    private static void asManyAsTheAttention() {
        Check.sentence("A hearer hears only the first characters of a spoken number, as many as the attention");
        hears("S+a", 1, 0, 20);
        hears("S+a", 2, 0, -5);
        hears("S+a", 3, 0, 21);
        hears("S+a", 4, 0, 21);
        hears("sG&sS+s", 1, 0, 19);
        hears("sG&sS+s", 2, 0, 7600);
        hears("sG&sS+s", 4, 0, 7619);
        hears("sG&sS+s", 5, 0, 7980);
        hears("sG&sS+s", 6, 0, -5);
        hears("sG&sS+s", 7, 0, 7999);
        hears("HsG&s-HsS", 8, 0, -5);
        hears("HsG&s-HsS", 9, 0, 7751);
        hears("HsG&s-HsS", 12, 0, 7751);
        hears("S", 1, 0, 20);
    }

    private static void noSpokenNumber() {
        Check.sentence("If these are no spoken number, the hearer understands nothing");
        hears("HbS", 1, 0, -5);
        hears("HbS", 2, 0, -5);
        hears("G&a", 2, 0, -5);
        hears("a-bS", 2, 0, -5);
        hears("a-bS", 3, 0, -5);
        // What is heard is judged with the words that are not known.
        hears("HbS", 1, 7, -5);
        hears("HbS", 2, 7, -5);
        hears("a-bS", 3, 7, -5);
        ScoreNumbers x = new ScoreNumbers();
        x.attend(0, 1);
        Check.due("tell(0, 30, 0) of H", x.tell(0, 30, 0), 0);
        Check.due("log(0, 3): 0 if nothing was", x.log(0, 3), 0);
    }

    private static void halfUnknown() {
        Check.sentence("with \"H\" as if it were not said, if \"H\" is not known");
        hears("HbS", 12, 1, 40);
        hears("HsS", 12, 1, 380);
        hears("HbG", 12, 1, 800);
        hears("HsG&s-HsS", 12, 1, 7600 + 380 - 19);
        hears("HbS", 12, 6, 30);
    }

    private static void lessUnknown() {
        Check.sentence("with the base plus the unit for a unit, \"-\" and a base, if \"-\" is not known");
        hears("a-S", 12, 2, 21);
        hears("s-S", 12, 2, 39);
        hears("s-sS", 12, 2, 399);
        hears("G&s-HbS", 12, 2, 449);
        hears("s-S", 1, 2, 19);
        hears("s-S", 12, 5, 1);
        // Nobody understands more than the largest number.
        hears("sG&s-sS", 12, 2, 7999);
    }

    private static void greatUnknown() {
        Check.sentence("20 for \"G\", 20 * u for a unit u and \"G\", and 20 * u - 10 if there is an \"H\" that is known");
        hears("G", 12, 4, 20);
        hears("bG", 12, 4, 40);
        hears("sG", 12, 4, 380);
        hears("HbG", 12, 4, 30);
        hears("HsG", 12, 4, 370);
        hears("HbG", 12, 5, 40);
        hears("HsG", 12, 5, 380);
        hears("G&a", 12, 4, 21);
        hears("sG&sS+s", 12, 4, 380 + 399);
        hears("G", 12, 3, 400);
    }

    private static void told(String text, int attention, int unknown, int due, int doubts) {
        ScoreNumbers x = new ScoreNumbers();
        x.set(9);
        forget(x, 0, unknown);
        x.attend(0, attention);
        Check.write(x, text);
        Check.due("tellText(0) of " + text + ", attention " + attention + ", unknown " + unknown, x.tellText(0), due);
        Check.due("errors", x.hearer(0, 8), 1 - due);
        for (int word = 0; word < 3; word++) {
            Check.due("doubt of word " + word, x.hearer(0, 3 + word), doubts >> word & 1);
        }
    }

    private static void errorOnlyIfNotTheNumber() {
        Check.sentence("If the hearer understands another number, or nothing, this is an error of the hearer; then");
        told("HbS", 12, 1, 0, 1);
        told("HbS", 2, 1, 0, 1);
        // The number is understood by chance: of the beginning alone, or by a word that is not known.
        told("HdG&j-S", 5, 0, 1, 0);
        told("HdG&j-S", 5, 2, 1, 0);
        told("HdG&j-S", 6, 2, 0, 2);
        told("HbS+j", 3, 1, 1, 0);
        told("HbS+j", 5, 1, 0, 1);
        told("S", 12, 7, 1, 0);
    }

    private static void theWholeText() {
        Check.sentence("for each of the three words that the said text (the whole one) has");
        told("G&a-HbS", 1, 7, 0, 7);
        told("a-HbS", 1, 7, 0, 3);
        told("a-S", 1, 7, 0, 2);
        told("S+a", 1, 7, 0, 0);
        told("HsG&s-HsS", 1, 7, 0, 7);
        told("sG", 1, 7, 0, 4);
        // Two times "H" in a text are one word.
        told("HbG&HbS", 12, 1, 0, 1);
    }

    private static void onlyWordsThatAreNotKnown() {
        Check.sentence("and that are not known to the hearer, its doubt (0 at first) becomes greater by 1");
        told("G&a-HbS", 1, 0, 0, 0);
        told("G&a-HbS", 1, 1, 0, 1);
        told("G&a-HbS", 1, 2, 0, 2);
        told("G&a-HbS", 1, 4, 0, 4);
    }

    private static void patienceOrMore() {
        Check.sentence("if it is PATIENCE or more then, the word is known to the hearer from then on,"
                + " and its doubt is 0 again");
        for (int patience : new int[] {1, 2, 9}) {
            ScoreNumbers x = new ScoreNumbers();
            x.set(patience);
            x.unlearn(0, 2);
            for (int told = 1; told <= patience; told++) {
                hearer(x, 0, 1, 1, 0, 0, 0, told - 1, 12, told - 1, told - 1);
                Check.due("tell(0, 400, 0)", x.tell(0, 400, 0), 0);
                Check.due("log(0, 4)", x.log(0, 4), told == patience ? 1 : 0);
                Check.due("log(0, 3)", x.log(0, 3), 20);
            }
            hearer(x, 0, 1, 1, 1, 0, 0, 0, 12, patience, patience);
            Check.due("tell(0, 400, 0)", x.tell(0, 400, 0), 1);
        }
        ScoreNumbers x = new ScoreNumbers();
        x.set(9);
        x.unlearn(0, 2);
        x.tell(0, 400, 0);
        x.tell(0, 400, 0);
        x.tell(0, 400, 0);
        x.set(3);
        hearer(x, 0, 1, 1, 0, 0, 0, 3);
        x.set(2);
        hearer(x, 0, 1, 1, 0, 0, 0, 3);
        Check.due("tell(0, 21, 0): no error", x.tell(0, 21, 0), 1);
        hearer(x, 0, 1, 1, 0, 0, 0, 3);
        Check.due("tell(0, 400, 0): more than PATIENCE", x.tell(0, 400, 0), 0);
        hearer(x, 0, 1, 1, 1, 0, 0, 0);
    }

    private static void newObject() {
        Check.sentence("Creates six hearers, an empty log, an empty text and an empty history");
        ScoreNumbers x = new ScoreNumbers();
        Check.due("hearer(0, 6)", x.hearer(0, 6), 12);
        Check.due("hearer(5, 6)", x.hearer(5, 6), 12);
        Check.due("hearer(6, 6)", x.hearer(6, 6), -1);
        Check.due("log(0, 0)", x.log(0, 0), -5);
        Check.due("fault()", x.fault(), 0);
        Check.due("clearText()", x.clearText(), 0);
        Check.due("undo()", x.undo(), -5);
        x.unlearn(0, 0);
        x.append('S');
        ScoreNumbers other = new ScoreNumbers();
        Check.due("hearer(0, 0) of another object", other.hearer(0, 0), 1);
        Check.due("clearText() of another object", other.clearText(), 0);
        Check.due("undo() of another object", other.undo(), -5);
    }

    private static void learn() {
        Check.sentence("learn: Makes a word known to a hearer; its doubt becomes 0");
        for (int hearer : new int[] {0, 5}) {
            for (int word : new int[] {0, 2}) {
                ScoreNumbers x = new ScoreNumbers();
                x.unlearn(hearer, word);
                Check.write(x, "HbG");
                x.tellText(hearer);
                Check.due("doubt before", x.hearer(hearer, 3 + word), 1);
                Check.due("learn(" + hearer + ", " + word + ")", x.learn(hearer, word), 3);
                Check.due("doubt after", x.hearer(hearer, 3 + word), 0);
                Check.due("known after", x.hearer(hearer, word), 1);
                Check.due("learn(" + hearer + ", " + word + ") again", x.learn(hearer, word), 3);
            }
        }
        Check.sentence("learn: Returns the number of words that are known to the hearer afterwards");
        ScoreNumbers x = new ScoreNumbers();
        forget(x, 0, 7);
        for (int word = 0; word < 3; word++) {
            Check.due("learn(0, " + word + ")", x.learn(0, word), word + 1);
        }
        x.unlearn(1, 0);
        x.tell(1, 30, 0);
        Check.due("doubt of H", x.hearer(1, 3), 1);
        Check.due("learn(1, 2): a doubt is no known word", x.learn(1, 2), 2);
        Check.due("unlearn(1, 2): a doubt is no known word", x.unlearn(1, 2), 1);
        Check.sentence("learn: NO_SUCH if there is no such hearer or word");
        for (int hearer : NO_HEARERS) {
            Check.due("learn(" + hearer + ", 0)", x.learn(hearer, 0), -1);
        }
        for (int word : NO_WORDS) {
            Check.due("learn(5, " + word + ")", x.learn(5, word), -1);
        }
    }

    private static void unlearn() {
        Check.sentence("unlearn: Makes a word unknown to a hearer; its doubt becomes 0");
        for (int hearer : new int[] {0, 5}) {
            for (int word : new int[] {0, 2}) {
                ScoreNumbers x = new ScoreNumbers();
                Check.due("unlearn(" + hearer + ", " + word + ")", x.unlearn(hearer, word), 2);
                Check.write(x, "HbG");
                x.tellText(hearer);
                Check.due("doubt before", x.hearer(hearer, 3 + word), 1);
                Check.due("unlearn(" + hearer + ", " + word + ") again", x.unlearn(hearer, word), 2);
                Check.due("doubt after", x.hearer(hearer, 3 + word), 0);
                Check.due("known after", x.hearer(hearer, word), 0);
            }
        }
        Check.sentence("unlearn: Returns the number of words that are known to the hearer afterwards");
        ScoreNumbers x = new ScoreNumbers();
        for (int word = 0; word < 3; word++) {
            Check.due("unlearn(0, " + word + ")", x.unlearn(0, word), 2 - word);
        }
        Check.due("unlearn(0, 2): nothing is known", x.unlearn(0, 2), 0);
        Check.sentence("unlearn: NO_SUCH if there is no such hearer or word");
        for (int hearer : NO_HEARERS) {
            Check.due("unlearn(" + hearer + ", 0)", x.unlearn(hearer, 0), -1);
        }
        for (int word : NO_WORDS) {
            Check.due("unlearn(5, " + word + ")", x.unlearn(5, word), -1);
        }
    }

    private static void attend() {
        ScoreNumbers x = new ScoreNumbers();
        Check.sentence("attend: Returns the previous attention");
        Check.due("attend(0, 1)", x.attend(0, 1), 12);
        Check.due("attend(0, 12)", x.attend(0, 12), 1);
        Check.due("attend(5, 1)", x.attend(5, 1), 12);
        Check.sentence("attend: NO_SUCH if there is no such hearer");
        for (int hearer : NO_HEARERS) {
            Check.due("attend(" + hearer + ", 1)", x.attend(hearer, 1), -1);
            Check.due("attend(" + hearer + ", 0)", x.attend(hearer, 0), -1);
            Check.due("attend(" + hearer + ", 13)", x.attend(hearer, 13), -1);
        }
        Check.sentence("attend: BAD_VALUE if attention is out of range");
        for (int attention : new int[] {0, 13, -1, Integer.MIN_VALUE, Integer.MAX_VALUE}) {
            Check.due("attend(5, " + attention + ")", x.attend(5, attention), -2);
        }
        Check.due("attend(5, 12)", x.attend(5, 12), 1);
    }

    private static void set() {
        ScoreNumbers x = new ScoreNumbers();
        Check.sentence("set: Returns the previous value");
        Check.due("set(1)", x.set(1), 2);
        Check.due("set(9)", x.set(9), 1);
        Check.sentence("set: BAD_VALUE if patience is out of range");
        for (int patience : new int[] {0, 10, -1, Integer.MIN_VALUE, Integer.MAX_VALUE}) {
            Check.due("set(" + patience + ")", x.set(patience), -2);
        }
        Check.due("set(9)", x.set(9), 9);
    }

    private static void tell() {
        ScoreNumbers x = new ScoreNumbers();
        x.attend(5, 1);
        Check.sentence("tell: Returns 1 if the hearer understands the number, 0 if this is an error");
        Check.due("tell(0, 1, 0)", x.tell(0, 1, 0), 1);
        Check.due("tell(0, 7999, 3)", x.tell(0, 7999, 3), 1);
        Check.due("tell(5, 1, 0)", x.tell(5, 1, 0), 1);
        Check.due("tell(5, 7999, 3): another number", x.tell(5, 7999, 3), 0);
        Check.due("tell(5, 30, 0): nothing", x.tell(5, 30, 0), 0);
        Check.sentence("tell: NO_SUCH if there is no such hearer or style");
        for (int hearer : NO_HEARERS) {
            Check.due("tell(" + hearer + ", 1, 0)", x.tell(hearer, 1, 0), -1);
            Check.due("tell(" + hearer + ", 8000, 0)", x.tell(hearer, 8000, 0), -1);
            Check.due("tell(" + hearer + ", 1, 4)", x.tell(hearer, 1, 4), -1);
        }
        for (int style : NO_STYLES) {
            Check.due("tell(0, 1, " + style + ")", x.tell(0, 1, style), -1);
            Check.due("tell(0, 0, " + style + ")", x.tell(0, 0, style), -1);
            Check.due("tell(0, 8000, " + style + ")", x.tell(0, 8000, style), -1);
        }
        Check.sentence("tell: BAD_VALUE if number is out of range");
        for (int number : NO_NUMBERS) {
            Check.due("tell(5, " + number + ", 3)", x.tell(5, number, 3), -2);
        }
        Check.due("sum(0)", x.sum(0), 5);
    }

    private static void tellText() {
        ScoreNumbers x = new ScoreNumbers();
        Check.sentence("tellText: BAD_TEXT if the text has a fault");
        Check.due("tellText(0) of the empty text", x.tellText(0), -3);
        Check.write(x, "S+");
        Check.due("tellText(5) of S+", x.tellText(5), -3);
        Check.write(x, "HsG&s-HsSS");
        Check.due("tellText(5) of 10 characters", x.tellText(5), -3);
        Check.write(x, "SSSSSSSSSSSSSSSSSSSS");
        Check.due("tellText(5) of 20 characters", x.tellText(5), -3);
        Check.sentence("tellText: NO_SUCH if there is no such hearer");
        for (int hearer : NO_HEARERS) {
            Check.due("tellText(" + hearer + ") of a text with a fault", x.tellText(hearer), -1);
        }
        Check.write(x, "s-S");
        for (int hearer : NO_HEARERS) {
            Check.due("tellText(" + hearer + ") of s-S", x.tellText(hearer), -1);
        }
        Check.sentence("tellText: as with tell, but with this text instead of a way of a style");
        Check.due("tellText(0) of s-S", x.tellText(0), 1);
        Check.due("log(0, 1)", x.log(0, 1), 1);
        Check.due("log(0, 2): not the first way", x.log(0, 2), 3);
        Check.sentence("tellText: Returns 1 if the hearer understands its meaning, 0 if this is an error");
        x.attend(5, 2);
        Check.due("tellText(5) of s-", x.tellText(5), 0);
        x.attend(5, 3);
        Check.due("tellText(5) of s-S", x.tellText(5), 1);
        Check.write(x, "sG&sS+s");
        Check.due("tellText(0) of 7999", x.tellText(0), 1);
        Check.due("log(0, 3)", x.log(0, 3), 7999);
    }

    private static void allCallsOfAnObject() {
        Check.sentence("An object is used for at most 512 calls after it has been made");
        ScoreNumbers x = new ScoreNumbers();
        x.attend(3, 1);
        for (int call = 2; call <= 507; call++) {
            Check.due("tell(3, 7999, 0)", x.tell(3, 7999, 0), 0);
        }
        Check.due("call 508: hearer(3, 7)", x.hearer(3, 7), 506);
        Check.due("call 509: sum(1)", x.sum(1), 506);
        Check.due("call 510: log(9, 3)", x.log(9, 3), 19);
        Check.due("call 511: undo()", x.undo(), 3);
        Check.due("call 512: hearer(3, 8)", x.hearer(3, 8), 505);
    }
}
