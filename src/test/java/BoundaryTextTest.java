import java.util.function.ToIntFunction;

/** The boundaries of the history ("Actions and history") and of promises 8 to 12. */
public final class BoundaryTextTest {
    private static final String FULL = "SSSSSSSSSSSSSSSSSSSS";

    private BoundaryTextTest() {
    }

    public static void main(String[] args) {
        appendWrongCharacter();
        appendToAFullText();
        clearText();
        fault();
        meaning();
        undoOfAnEmptyHistory();
        undoCountsWhatIsLeft();
        undoLeavesTheText();
        eachActionRecords();
        eachActionThatChangesNothingRecords();
        errorCodesRecordNothing();
        atMostFourStates();
        roundAndRound();
        undoIsNoAction();
        stateIsHearersLogAndPatience();
        logOfAnUndoneState();
        Check.end();
    }

    private static void appendWrongCharacter() {
        Check.sentence("append: BAD_VALUE if character is out of range");
        int[] outside = {31, 127, 0, -1, 128, 255, 256 + 83, 65536 + 83, Integer.MIN_VALUE, Integer.MAX_VALUE};
        ScoreNumbers x = new ScoreNumbers();
        for (int character : outside) {
            Check.due("append(" + character + ")", x.append(character), -2);
        }
        Check.sentence("append: Returns the length of the text");
        Check.due("append(32)", x.append(32), 1);
        Check.due("append(126)", x.append(126), 2);
        Check.write(x, FULL);
        Check.sentence("append: BAD_VALUE if character is out of range; TOO_MANY if the text has 20 characters");
        for (int character : outside) {
            Check.due("append(" + character + ") to 20", x.append(character), -2);
        }
    }

    private static void appendToAFullText() {
        Check.sentence("append: TOO_MANY if the text has 20 characters");
        ScoreNumbers x = new ScoreNumbers();
        for (int length = 1; length <= 20; length++) {
            Check.due("append('S')", x.append('S'), length);
        }
        Check.due("append('S') to 20", x.append('S'), -4);
        Check.due("append(32) to 20", x.append(32), -4);
        Check.due("append(126) to 20", x.append(126), -4);
        Check.due("fault() of 20", x.fault(), 1);
        Check.due("meaning() of 20", x.meaning(), -3);
        Check.due("clearText() of 20", x.clearText(), 20);
        Check.due("append('a')", x.append('a'), 1);
        Check.due("meaning()", x.meaning(), 1);
    }

    private static void clearText() {
        Check.sentence("clearText: Returns the length that the text had");
        ScoreNumbers x = new ScoreNumbers();
        Check.due("clearText() of the empty text", x.clearText(), 0);
        x.append('S');
        Check.due("clearText() of 1", x.clearText(), 1);
        Check.due("clearText() again", x.clearText(), 0);
        Check.due("fault() of the empty text", x.fault(), 0);
        // Nothing of a long text is left behind a short one.
        Check.write(x, "HsG&s-HsS");
        Check.write(x, "Hs");
        Check.due("fault() of Hs", x.fault(), 2);
        Check.write(x, "G");
        Check.due("meaning() of G", x.meaning(), 400);
        Check.due("placeOfText() of G", x.placeOfText(), 0);
    }

    private static void fault() {
        Check.sentence("fault: Returns the fault; NONE if the text has no fault");
        ScoreNumbers x = new ScoreNumbers();
        Check.due("fault() of the empty text", x.fault(), 0);
        int[] due = {1, 2, -5, 4, -5, 6, 7, 8, -5, 9, 9};
        String text = "HsG&s-HsSSS";
        for (int i = 0; i < text.length(); i++) {
            x.append(text.charAt(i));
            Check.due("fault() of " + text.substring(0, i + 1), x.fault(), due[i]);
        }
        Check.write(x, "&");
        Check.due("fault() of &", x.fault(), 0);
    }

    private static void meaning() {
        Check.sentence("meaning: Returns the meaning; BAD_TEXT if the text has a fault");
        ScoreNumbers x = new ScoreNumbers();
        Check.due("meaning() of the empty text", x.meaning(), -3);
        int[] due = {-3, -3, 7400, -3, 7419, -3, -3, -3, 7751, -3, -3};
        String text = "HsG&s-HsSSS";
        for (int i = 0; i < text.length(); i++) {
            x.append(text.charAt(i));
            Check.due("meaning() of " + text.substring(0, i + 1), x.meaning(), due[i]);
        }
        Check.write(x, "s-S");
        Check.due("meaning() of s-S", x.meaning(), 1);
        Check.write(x, "sG&sS+s");
        Check.due("meaning() of sG&sS+s", x.meaning(), 7999);
    }

    private static void undoOfAnEmptyHistory() {
        Check.sentence("undo: NONE if the history is empty");
        ScoreNumbers x = new ScoreNumbers();
        String before = Check.seen(x);
        Check.due("undo()", x.undo(), -5);
        Check.due("undo() again", x.undo(), -5);
        Check.due("what is seen", Check.seen(x), before);
        x.set(9);
        Check.due("undo()", x.undo(), 0);
        Check.due("undo()", x.undo(), -5);
        Check.due("what is seen", Check.seen(x), before);
    }

    private static void undoCountsWhatIsLeft() {
        Check.sentence("undo: Returns the number of states that are left in the history");
        for (int actions = 1; actions <= 4; actions++) {
            ScoreNumbers x = new ScoreNumbers();
            for (int i = 0; i < actions; i++) {
                x.set(3 + i);
            }
            for (int left = actions - 1; left >= 0; left--) {
                Check.due("undo()", x.undo(), left);
                Check.due("patience()", x.patience(), 2 + left);
            }
            Check.due("undo()", x.undo(), -5);
        }
    }

    private static void undoLeavesTheText() {
        Check.sentence("undo: The text does not change");
        ScoreNumbers x = new ScoreNumbers();
        x.set(3);
        Check.write(x, FULL);
        Check.due("undo()", x.undo(), 0);
        Check.due("clearText()", x.clearText(), 20);
        Check.write(x, "S");
        x.set(3);
        x.clearText();
        Check.due("undo()", x.undo(), 0);
        Check.due("fault()", x.fault(), 0);
    }

    private static void isUndone(String action, ScoreNumbers x, ToIntFunction<ScoreNumbers> call, int due, boolean same) {
        String before = Check.seen(x);
        Check.due(action, call.applyAsInt(x), due);
        String after = Check.seen(x);
        if (after.equals(before) != same) {
            Check.tell(action + (same ? " changed something" : " changed nothing"));
        }
        Check.due("undo() of " + action, x.undo(), 0);
        Check.due("what is seen after undo() of " + action, Check.seen(x), before);
        Check.due("undo() again", x.undo(), -5);
    }

    private static void eachActionRecords() {
        Check.sentence("Each action that returns no error code records the state before it in the history");
        isUndone("unlearn(5, 2)", new ScoreNumbers(), x -> x.unlearn(5, 2), 2, false);
        isUndone("attend(0, 1)", new ScoreNumbers(), x -> x.attend(0, 1), 12, false);
        isUndone("set(9)", new ScoreNumbers(), x -> x.set(9), 2, false);
        isUndone("tell(5, 7999, 3)", new ScoreNumbers(), x -> x.tell(5, 7999, 3), 1, false);
        ScoreNumbers x = new ScoreNumbers();
        Check.write(x, "s-S");
        isUndone("tellText(0)", x, y -> y.tellText(0), 1, false);
        x = new ScoreNumbers();
        x.unlearn(0, 0);
        x.attend(1, 1);
        Check.due("learn(0, 0)", x.learn(0, 0), 3);
        Check.due("tell(1, 30, 0): an error of the hearer, no error code", x.tell(1, 30, 0), 0);
        Check.due("undo() of tell", x.undo(), 3);
        Check.due("sum(1)", x.sum(1), 0);
        Check.due("undo() of learn", x.undo(), 2);
        Check.due("hearer(0, 0)", x.hearer(0, 0), 0);
    }

    private static void eachActionThatChangesNothingRecords() {
        Check.sentence("even if the action changes nothing");
        isUndone("learn(0, 0)", new ScoreNumbers(), x -> x.learn(0, 0), 3, true);
        isUndone("attend(5, 12)", new ScoreNumbers(), x -> x.attend(5, 12), 12, true);
        isUndone("set(2)", new ScoreNumbers(), x -> x.set(2), 2, true);
        ScoreNumbers x = new ScoreNumbers();
        x.unlearn(0, 0);
        x.unlearn(0, 0);
        Check.due("undo() of the second unlearn(0, 0)", x.undo(), 1);
        Check.due("hearer(0, 0)", x.hearer(0, 0), 0);
        Check.due("undo() of the first unlearn(0, 0)", x.undo(), 0);
        Check.due("hearer(0, 0)", x.hearer(0, 0), 1);
    }

    private static void errorCodesRecordNothing() {
        Check.sentence("Each action that returns no error code records");
        ScoreNumbers x = new ScoreNumbers();
        int[] codes = {x.learn(6, 0), x.learn(0, 3), x.unlearn(6, 0), x.unlearn(0, 3), x.attend(6, 1), x.attend(0, 0),
            x.attend(0, 13), x.set(0), x.set(10), x.tell(6, 1, 0), x.tell(0, 1, 4), x.tell(0, 0, 0),
            x.tell(0, 8000, 0), x.tellText(6), x.tellText(0)};
        int[] due = {-1, -1, -1, -1, -1, -2, -2, -2, -2, -1, -1, -2, -2, -1, -3};
        for (int i = 0; i < due.length; i++) {
            Check.due("wrong call " + i, codes[i], due[i]);
        }
        Check.due("undo()", x.undo(), -5);
    }

    private static void atMostFourStates() {
        Check.sentence("The history holds at most 4 states; when a fifth state is recorded, the oldest one is dropped");
        ScoreNumbers x = new ScoreNumbers();
        for (int attention = 1; attention <= 4; attention++) {
            x.attend(0, attention);
        }
        Check.due("undo() of the 4th action", x.undo(), 3);
        Check.due("undo() of the 3rd action", x.undo(), 2);
        Check.due("undo() of the 2nd action", x.undo(), 1);
        Check.due("undo() of the 1st action", x.undo(), 0);
        Check.due("hearer(0, 6)", x.hearer(0, 6), 12);
        Check.due("undo() of no action", x.undo(), -5);
        for (int attention = 1; attention <= 5; attention++) {
            x.attend(0, attention);
        }
        for (int left = 3; left >= 0; left--) {
            Check.due("undo() of one of 5 actions", x.undo(), left);
            Check.due("hearer(0, 6)", x.hearer(0, 6), left + 1);
        }
        Check.due("undo() of the first of 5 actions", x.undo(), -5);
        Check.due("hearer(0, 6): the state before the first is dropped", x.hearer(0, 6), 1);
    }

    /** However many states were recorded before, the latest four are there, and those alone. */
    private static void roundAndRound() {
        Check.sentence("The history holds at most 4 states");
        for (int actions = 1; actions <= 40; actions++) {
            ScoreNumbers x = new ScoreNumbers();
            for (int i = 1; i <= actions; i++) {
                x.tell(i % 6, i, 0);
            }
            int held = Math.min(actions, 4);
            for (int undone = 1; undone <= held; undone++) {
                Check.due("undo() after " + actions, x.undo(), held - undone);
                Check.due("sum(0) after " + actions, x.sum(0), actions - undone);
            }
            Check.due("undo() after " + actions, x.undo(), -5);
            Check.due("sum(0) after " + actions, x.sum(0), actions - held);
        }
    }

    private static void undoIsNoAction() {
        Check.sentence("The actions are learn, unlearn, attend, set, tell and tellText");
        ScoreNumbers x = new ScoreNumbers();
        x.set(3);
        x.set(4);
        Check.due("undo()", x.undo(), 1);
        Check.due("undo(): it records nothing", x.undo(), 0);
        Check.due("patience()", x.patience(), 2);
        x.set(5);
        x.append('S');
        x.clearText();
        x.fault();
        x.meaning();
        x.placeOfText();
        x.understoodText(0);
        Check.due("undo(): the others record nothing", x.undo(), 0);
        Check.due("patience()", x.patience(), 2);
    }

    private static void stateIsHearersLogAndPatience() {
        Check.sentence("The state consists of everything about the hearers, the log and PATIENCE");
        ScoreNumbers x = new ScoreNumbers();
        x.unlearn(0, 1);
        x.unlearn(5, 2);
        Check.due("tell(0, 1, 2)", x.tell(0, 1, 2), 0);
        String before = Check.seen(x);
        Check.due("tell(5, 400, 0)", x.tell(5, 400, 0), 0);
        Check.due("tell(0, 1, 2)", x.tell(0, 1, 2), 0);
        Check.due("hearer(0, 1): learnt", x.hearer(0, 1), 1);
        x.set(9);
        x.attend(3, 5);
        for (int left = 3; left >= 0; left--) {
            Check.due("undo()", x.undo(), left);
        }
        Check.due("what is seen", Check.seen(x), before);
    }

    private static void logOfAnUndoneState() {
        Check.sentence("undo: Restores the latest state of the history");
        for (int tellings : new int[] {1, 9, 10, 11, 12, 20, 21}) {
            ScoreNumbers x = new ScoreNumbers();
            for (int number = 1; number <= tellings; number++) {
                x.tell(0, number, 0);
            }
            Check.due("undo()", x.undo(), Math.min(tellings, 4) - 1);
            for (int ago = 0; ago <= 10; ago++) {
                int number = tellings - 1 - ago;
                Check.due("log(" + ago + ", 1) of " + tellings + " tellings less one", x.log(ago, 1),
                        ago < 10 && number >= 1 ? number : -5);
            }
        }
    }
}
