/** Promise 12 undo, and what each action records. */
public final class HistoryTest {
    private HistoryTest() {
    }

    public static void main(String[] args) {
        emptyHistory();
        eachActionIsUndone();
        atMostFour();
        actionsThatChangeNothing();
        textStays();
        undoneLog();
        undoneLogsOfEveryLength();
        goingOnAfterUndo();
        Check.end();
    }

    private static void emptyHistory() {
        ScoreNumbers x = new ScoreNumbers();
        Check.due("undo()", x.undo(), -5);
        x.append('S');
        x.clearText();
        x.ways(5);
        x.bestWay(0, 5);
        Check.due("undo() after no action", x.undo(), -5);
        x.set(3);
        Check.due("undo()", x.undo(), 0);
        Check.due("undo()", x.undo(), -5);
        Check.due("patience()", x.patience(), 2);
    }

    private static void eachActionIsUndone() {
        ScoreNumbers x = new ScoreNumbers();
        Check.write(x, "G");
        x.unlearn(1, 2);
        Check.due("undo() of unlearn", x.undo(), 0);
        Check.due("hearer(1, 2)", x.hearer(1, 2), 1);
        x.unlearn(1, 2);
        x.learn(1, 2);
        Check.due("undo() of learn", x.undo(), 1);
        Check.due("hearer(1, 2)", x.hearer(1, 2), 0);
        x.attend(2, 4);
        Check.due("undo() of attend", x.undo(), 1);
        Check.due("hearer(2, 6)", x.hearer(2, 6), 12);
        x.set(7);
        Check.due("undo() of set", x.undo(), 1);
        Check.due("patience()", x.patience(), 2);
        x.tell(1, 400, 0);
        Check.due("hearer(1, 5)", x.hearer(1, 5), 1);
        Check.due("undo() of tell", x.undo(), 1);
        Check.due("hearer(1, 5)", x.hearer(1, 5), 0);
        Check.due("log(0, 0)", x.log(0, 0), -5);
        Check.due("tellText(1)", x.tellText(1), 0);
        Check.due("undo() of tellText", x.undo(), 1);
        Check.due("hearer(1, 7)", x.hearer(1, 7), 0);
        Check.due("hearer(1, 8)", x.hearer(1, 8), 0);
    }

    private static void atMostFour() {
        ScoreNumbers x = new ScoreNumbers();
        for (int patience = 3; patience <= 9; patience++) {
            x.set(patience);
        }
        for (int left = 3; left >= 0; left--) {
            Check.due("undo()", x.undo(), left);
            Check.due("patience() with " + left + " left", x.patience(), 5 + left);
        }
        Check.due("undo()", x.undo(), -5);
        Check.due("patience()", x.patience(), 5);
    }

    private static void actionsThatChangeNothing() {
        ScoreNumbers x = new ScoreNumbers();
        x.learn(0, 0);
        x.attend(0, 12);
        x.set(2);
        x.set(2);
        for (int left = 3; left >= 0; left--) {
            Check.due("undo() of what changed nothing", x.undo(), left);
        }
        Check.due("undo()", x.undo(), -5);
    }

    private static void textStays() {
        ScoreNumbers x = new ScoreNumbers();
        Check.write(x, "bS");
        x.set(5);
        x.append('+');
        x.append('a');
        Check.due("undo()", x.undo(), 0);
        Check.due("meaning()", x.meaning(), 41);
    }

    private static void undoneLog() {
        ScoreNumbers x = new ScoreNumbers();
        for (int number = 1; number <= 12; number++) {
            x.tell(0, number, 0);
        }
        x.undo();
        x.undo();
        x.undo();
        for (int ago = 0; ago < 9; ago++) {
            Check.due("log(" + ago + ", 1) after undo", x.log(ago, 1), 9 - ago);
        }
        Check.due("log(9, 1) after undo", x.log(9, 1), -5);
        Check.due("sum(0)", x.sum(0), 9);
        x.tell(1, 77, 0);
        Check.due("log(0, 1)", x.log(0, 1), 77);
        Check.due("log(1, 1)", x.log(1, 1), 9);
        Check.due("log(9, 1)", x.log(9, 1), 1);
    }

    private static void undoneLogsOfEveryLength() {
        for (int many = 4; many <= 30; many++) {
            ScoreNumbers x = new ScoreNumbers();
            for (int number = 1; number <= many; number++) {
                x.tell(0, number, 0);
            }
            for (int undone = 1; undone <= 4; undone++) {
                Check.due("undo()", x.undo(), 4 - undone);
                for (int ago = 0; ago <= 10; ago++) {
                    int number = many - undone - ago;
                    Check.due("log(" + ago + ", 1) after " + many + " less " + undone,
                            x.log(ago, 1), ago < 10 && number >= 1 ? number : -5);
                }
            }
        }
    }

    private static void goingOnAfterUndo() {
        ScoreNumbers x = new ScoreNumbers();
        x.set(3);
        x.set(4);
        x.set(5);
        Check.due("undo()", x.undo(), 2);
        x.set(6);
        x.set(7);
        x.set(8);
        int[] due = {7, 6, 4, 3};
        for (int i = 0; i < 4; i++) {
            Check.due("undo()", x.undo(), 3 - i);
            Check.due("patience()", x.patience(), due[i]);
        }
        Check.due("undo()", x.undo(), -5);
    }
}
