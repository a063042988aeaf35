import java.util.ArrayList;
import java.util.List;
import java.util.function.ToIntFunction;

/** "A method that returns an error code changes nothing", and the methods that never change anything. */
public final class BoundaryErrorsTest {
    private static final String FULL = "SSSSSSSSSSSSSSSSSSSS";
    private static final int[] WILD = {Integer.MIN_VALUE, -1, 0, 1, 2, 3, 4, 5, 6, 7, 8, 9, 10, 11, 16, 40, 41,
        7999, 8000, Integer.MAX_VALUE};

    private record Call(String name, String text, ToIntFunction<ScoreNumbers> call, int due) {
    }

    private BoundaryErrorsTest() {
    }

    public static void main(String[] args) {
        constants();
        errorsChangeNothing();
        noneOfUndoChangesNothing();
        questionsChangeNothing();
        Check.end();
    }

    private static void constants() {
        Check.sentence("The constants");
        Check.due("NO_SUCH", ScoreNumbers.NO_SUCH, -1);
        Check.due("BAD_VALUE", ScoreNumbers.BAD_VALUE, -2);
        Check.due("BAD_TEXT", ScoreNumbers.BAD_TEXT, -3);
        Check.due("TOO_MANY", ScoreNumbers.TOO_MANY, -4);
        Check.due("NONE", ScoreNumbers.NONE, -5);
    }

    /** An object with doubts, a log, a text and a full history. */
    private static ScoreNumbers busy(String text) {
        ScoreNumbers x = new ScoreNumbers();
        x.set(9);
        x.unlearn(0, 0);
        x.unlearn(1, 1);
        x.unlearn(5, 2);
        x.tell(0, 50, 0);
        x.tell(5, 400, 0);
        x.attend(2, 5);
        Check.write(x, text);
        return x;
    }

    private static List<Call> errors() {
        List<Call> all = new ArrayList<>();
        for (int out : new int[] {Integer.MIN_VALUE, -1, 6, Integer.MAX_VALUE}) {
            String hearer = "(" + out + ", ";
            all.add(new Call("learn" + hearer + "0)", "S", x -> x.learn(out, 0), -1));
            all.add(new Call("unlearn" + hearer + "0)", "S", x -> x.unlearn(out, 0), -1));
            all.add(new Call("attend" + hearer + "1)", "S", x -> x.attend(out, 1), -1));
            all.add(new Call("tell" + hearer + "1, 0)", "S", x -> x.tell(out, 1, 0), -1));
            all.add(new Call("tellText(" + out + ")", "S", x -> x.tellText(out), -1));
        }
        for (int out : new int[] {Integer.MIN_VALUE, -1, 3, Integer.MAX_VALUE}) {
            all.add(new Call("learn(0, " + out + ")", "S", x -> x.learn(0, out), -1));
            all.add(new Call("unlearn(0, " + out + ")", "S", x -> x.unlearn(0, out), -1));
        }
        for (int out : new int[] {Integer.MIN_VALUE, -1, 4, Integer.MAX_VALUE}) {
            all.add(new Call("tell(0, 1, " + out + ")", "S", x -> x.tell(0, 1, out), -1));
        }
        for (int out : new int[] {Integer.MIN_VALUE, -1, 0, 8000, Integer.MAX_VALUE}) {
            all.add(new Call("tell(0, " + out + ", 0)", "S", x -> x.tell(0, out, 0), -2));
        }
        for (int out : new int[] {Integer.MIN_VALUE, 0, 13, Integer.MAX_VALUE}) {
            all.add(new Call("attend(2, " + out + ")", "S", x -> x.attend(2, out), -2));
        }
        for (int out : new int[] {Integer.MIN_VALUE, 0, 10, Integer.MAX_VALUE}) {
            all.add(new Call("set(" + out + ")", "S", x -> x.set(out), -2));
        }
        for (String text : new String[] {"", "H", "G&aS", FULL}) {
            all.add(new Call("tellText(0) of '" + text + "'", text, x -> x.tellText(0), -3));
        }
        for (int out : new int[] {Integer.MIN_VALUE, -1, 31, 127, 256 + 'S', Integer.MAX_VALUE}) {
            all.add(new Call("append(" + out + ")", "S", x -> x.append(out), -2));
            all.add(new Call("append(" + out + ") to 20", FULL, x -> x.append(out), -2));
        }
        all.add(new Call("append('S') to 20", FULL, x -> x.append('S'), -4));
        return all;
    }

    private static void errorsChangeNothing() {
        Check.sentence("A method that returns an error code changes nothing");
        for (Call call : errors()) {
            ScoreNumbers x = busy(call.text());
            String before = Check.seen(x);
            Check.due(call.name(), call.call().applyAsInt(x), call.due());
            Check.due("what is seen after " + call.name(), Check.seen(x), before);
            historyIsWhole(call.name(), x, call.text());
        }
    }

    /** The four states of busy() are there still, and the text. */
    private static void historyIsWhole(String after, ScoreNumbers x, String text) {
        for (int left = 3; left >= 0; left--) {
            Check.due("undo() after " + after, x.undo(), left);
        }
        Check.due("sum(0), undone, after " + after, x.sum(0), 0);
        Check.due("sum(2), undone, after " + after, x.sum(2), 16);
        Check.due("hearer(2, 6), undone, after " + after, x.hearer(2, 6), 12);
        Check.due("patience(), undone, after " + after, x.patience(), 9);
        Check.due("undo() of no state after " + after, x.undo(), -5);
        Check.due("clearText() after " + after, x.clearText(), text.length());
    }

    private static void noneOfUndoChangesNothing() {
        Check.sentence("undo: NONE if the history is empty");
        ScoreNumbers x = busy("S");
        for (int i = 0; i < 4; i++) {
            x.undo();
        }
        String before = Check.seen(x);
        Check.due("undo()", x.undo(), -5);
        Check.due("undo()", x.undo(), -5);
        Check.due("what is seen after undo()", Check.seen(x), before);
    }

    private static void questionsChangeNothing() {
        Check.sentence("these methods change nothing");
        for (String text : new String[] {"", "Hb", "HbG&a-HbS", FULL}) {
            for (int first : WILD) {
                ScoreNumbers x = busy(text);
                String before = Check.seen(x);
                for (int second : new int[] {Integer.MIN_VALUE, 0, 1, 40, 7999, Integer.MAX_VALUE}) {
                    ask(x, first, second);
                }
                String call = "questions with " + first;
                Check.due("what is seen after " + call, Check.seen(x), before);
                historyIsWhole(call, x, text);
            }
        }
    }

    private static void ask(ScoreNumbers x, int first, int second) {
        x.fault();
        x.meaning();
        x.ways(first);
        x.wayLength(second, first);
        x.wayAt(second, first, 0);
        x.styled(second, first);
        x.placeOfText();
        x.hearer(first, second);
        x.understood(first, second, 0);
        x.understoodText(first);
        x.bestWay(first, second);
        x.commonWay(second);
        x.reach(second, first);
        x.untellable(first, second, 40);
        x.log(first, second);
        x.sum(first);
        x.patience();
        x.share();
    }
}
