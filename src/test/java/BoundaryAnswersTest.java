/** The boundaries of promises 18 to 28. */
public final class BoundaryAnswersTest {
    private static final int[] NO_HEARERS = {-1, 6, Integer.MIN_VALUE, Integer.MAX_VALUE};
    private static final int[] NO_STYLES = {-1, 4, Integer.MIN_VALUE, Integer.MAX_VALUE};
    private static final int[] NO_NUMBERS = {0, 8000, -1, Integer.MIN_VALUE, Integer.MAX_VALUE};

    private BoundaryAnswersTest() {
    }

    public static void main(String[] args) {
        hearer();
        understoodErrors();
        understoodNone();
        understoodText();
        bestWay();
        commonWay();
        commonWayOfManyHearers();
        reach();
        untellableErrors();
        untellableAbove7999();
        untellableManyNumbers();
        logErrors();
        logOfManyTellings();
        logLines();
        sum();
        patience();
        share();
        shareOfManyTellings();
        Check.end();
    }

    private static void hearer() {
        ScoreNumbers x = new ScoreNumbers();
        Check.sentence("hearer: NO_SUCH if there is no such hearer");
        for (int hearer : NO_HEARERS) {
            Check.due("hearer(" + hearer + ", 0)", x.hearer(hearer, 0), -1);
            Check.due("hearer(" + hearer + ", 9): before BAD_VALUE", x.hearer(hearer, 9), -1);
        }
        Check.sentence("hearer: BAD_VALUE if what is out of range");
        for (int what : new int[] {-1, 9, Integer.MIN_VALUE, Integer.MAX_VALUE}) {
            Check.due("hearer(0, " + what + ")", x.hearer(0, what), -2);
            Check.due("hearer(5, " + what + ")", x.hearer(5, what), -2);
        }
        Check.sentence("hearer: 0, 1 or 2 ...; 3, 4 or 5 ...; 6 ...; 7 ...; 8 for the errors");
        x.set(9);
        x.unlearn(5, 0);
        x.unlearn(5, 2);
        x.attend(5, 11);
        x.tell(5, 600, 0);
        x.tell(5, 400, 0);
        x.tell(5, 1, 0);
        int[] due = {0, 1, 0, 1, 0, 2, 11, 3, 2};
        for (int what = 0; what < due.length; what++) {
            Check.due("hearer(5, " + what + ")", x.hearer(5, what), due[what]);
        }
    }

    private static void understoodErrors() {
        ScoreNumbers x = new ScoreNumbers();
        Check.sentence("understood: NO_SUCH if there is no such hearer");
        for (int hearer : NO_HEARERS) {
            Check.due("understood(" + hearer + ", 1, 0)", x.understood(hearer, 1, 0), -1);
            Check.due("understood(" + hearer + ", 0, 0)", x.understood(hearer, 0, 0), -1);
            Check.due("understood(" + hearer + ", 1, -1)", x.understood(hearer, 1, -1), -1);
            Check.due("understood(" + hearer + ", 1, 9)", x.understood(hearer, 1, 9), -1);
        }
        Check.sentence("understood: BAD_VALUE if number is out of range or place is below 0");
        for (int number : NO_NUMBERS) {
            Check.due("understood(5, " + number + ", 0)", x.understood(5, number, 0), -2);
            Check.due("understood(5, " + number + ", 99)", x.understood(5, number, 99), -2);
        }
        Check.due("understood(0, 1, -1)", x.understood(0, 1, -1), -2);
        Check.due("understood(0, 7999, MIN)", x.understood(0, 7999, Integer.MIN_VALUE), -2);
    }

    private static void understoodNone() {
        ScoreNumbers x = new ScoreNumbers();
        Check.sentence("understood: NONE if there are not so many ways, or the hearer would understand nothing");
        Check.due("understood(0, 1, 1)", x.understood(0, 1, 1), 1);
        Check.due("understood(0, 1, 2)", x.understood(0, 1, 2), -5);
        Check.due("understood(0, 969, 7)", x.understood(0, 969, 7), 969);
        Check.due("understood(0, 969, 8)", x.understood(0, 969, 8), -5);
        Check.due("understood(0, 969, 16)", x.understood(0, 969, 16), -5);
        Check.due("understood(5, 7999, 0)", x.understood(5, 7999, 0), 7999);
        Check.due("understood(5, 7999, 1)", x.understood(5, 7999, 1), -5);
        Check.due("understood(5, 7999, MAX)", x.understood(5, 7999, Integer.MAX_VALUE), -5);
        x.attend(0, 1);
        Check.due("understood(0, 30, 0) of H", x.understood(0, 30, 0), -5);
        Check.due("understood(0, 30, 1) of S", x.understood(0, 30, 1), 20);
        Check.due("understood(0, 30, 2) of j", x.understood(0, 30, 2), 10);
        Check.due("understood(0, 30, 3)", x.understood(0, 30, 3), -5);
    }

    private static void understoodText() {
        ScoreNumbers x = new ScoreNumbers();
        Check.sentence("understoodText: NO_SUCH if there is no such hearer");
        for (int hearer : NO_HEARERS) {
            Check.due("understoodText(" + hearer + ") of the empty text", x.understoodText(hearer), -1);
        }
        Check.sentence("understoodText: BAD_TEXT if the text has a fault");
        x.attend(5, 1);
        for (String text : new String[] {"", "H", "S+", "SS", "HsG&s-HsSS", "SSSSSSSSSSSSSSSSSSSS"}) {
            Check.write(x, text);
            Check.due("understoodText(0) of '" + text + "'", x.understoodText(0), -3);
            // The whole text counts here, not what is heard of it.
            Check.due("understoodText(5) of '" + text + "'", x.understoodText(5), -3);
        }
        Check.sentence("understoodText: NONE if the hearer would understand nothing");
        Check.write(x, "HbS");
        Check.due("understoodText(5) of H", x.understoodText(5), -5);
        x.attend(5, 2);
        Check.due("understoodText(5) of Hb", x.understoodText(5), -5);
        x.attend(5, 3);
        Check.due("understoodText(5) of HbS", x.understoodText(5), 30);
        for (int hearer : NO_HEARERS) {
            Check.due("understoodText(" + hearer + ") of HbS", x.understoodText(hearer), -1);
        }
    }

    private static void bestWay() {
        ScoreNumbers x = new ScoreNumbers();
        Check.sentence("bestWay: NO_SUCH if there is no such hearer");
        for (int hearer : NO_HEARERS) {
            Check.due("bestWay(" + hearer + ", 1)", x.bestWay(hearer, 1), -1);
            Check.due("bestWay(" + hearer + ", 8000): before BAD_VALUE", x.bestWay(hearer, 8000), -1);
        }
        Check.sentence("bestWay: BAD_VALUE if number is out of range");
        for (int number : NO_NUMBERS) {
            Check.due("bestWay(5, " + number + ")", x.bestWay(5, number), -2);
        }
        Check.sentence("bestWay: NONE if there is none");
        x.attend(0, 1);
        Check.due("bestWay(0, 19)", x.bestWay(0, 19), 0);
        Check.due("bestWay(0, 20)", x.bestWay(0, 20), 0);
        Check.due("bestWay(0, 21)", x.bestWay(0, 21), -5);
        Check.due("bestWay(0, 400)", x.bestWay(0, 400), 0);
        Check.due("bestWay(0, 7999)", x.bestWay(0, 7999), -5);
        x.attend(0, 7);
        Check.due("bestWay(0, 7999) of all 7 characters", x.bestWay(0, 7999), 0);
        Check.sentence("bestWay: Finds the first way of a number that a hearer would understand as this number");
        // 610 is G&HkS, HbG&j, G&j-kS, G&jS+j, HbG&j-S; with 5 characters, the beginning of the plain one is nothing.
        x.unlearn(1, 0);
        Check.due("bestWay(1, 610) without H", x.bestWay(1, 610), 2);
        x.unlearn(1, 1);
        Check.due("bestWay(1, 610) without H and -", x.bestWay(1, 610), 3);
        x.attend(1, 5);
        Check.due("bestWay(1, 610) of 5 characters", x.bestWay(1, 610), -5);
        // 1410 is understood of the beginning "HdG&j" of "HdG&j-S", and of the way "HdG&j" itself before.
        x.attend(2, 5);
        Check.due("bestWay(2, 1410)", x.bestWay(2, 1410), Oracle.WAYS.get(1410).indexOf("HdG&j"));
    }

    private static void commonWay() {
        ScoreNumbers x = new ScoreNumbers();
        Check.sentence("commonWay: BAD_VALUE if number is out of range");
        for (int number : NO_NUMBERS) {
            Check.due("commonWay(" + number + ")", x.commonWay(number), -2);
        }
        Check.sentence("commonWay: Returns its place");
        Check.due("commonWay(1)", x.commonWay(1), 0);
        Check.due("commonWay(7999)", x.commonWay(7999), 0);
        Check.due("commonWay(969)", x.commonWay(969), 0);
    }

    private static void commonWayOfManyHearers() {
        Check.sentence("commonWay: Finds the first way of a number that the most hearers would understand");
        ScoreNumbers x = new ScoreNumbers();
        x.unlearn(0, 0);
        x.unlearn(1, 1);
        // 50 is HcS, bS+j, j-cS: the plain way is understood by all six.
        Check.due("commonWay(50): all six", x.commonWay(50), 1);
        for (int hearer = 0; hearer < 6; hearer++) {
            x.attend(hearer, 3);
        }
        Check.due("commonWay(50): HcS by five", x.commonWay(50), 0);
        for (int hearer = 1; hearer < 6; hearer++) {
            x.unlearn(hearer, 0);
        }
        Check.due("commonWay(50): none by anybody", x.commonWay(50), 0);
        x.attend(5, 4);
        Check.due("commonWay(50): bS+j by the last hearer alone", x.commonWay(50), 1);
        x.learn(0, 0);
        Check.due("commonWay(50): each of two ways by one, so the first", x.commonWay(50), 0);
        x.attend(0, 1);
        x.unlearn(5, 2);
        x.attend(5, 1);
        Check.due("commonWay(19): s by all", x.commonWay(19), 0);
        Check.due("commonWay(400): the one way", x.commonWay(400), 0);
    }

    private static void reach() {
        ScoreNumbers x = new ScoreNumbers();
        Check.sentence("reach: NO_SUCH if there is no such style");
        for (int style : NO_STYLES) {
            Check.due("reach(1, " + style + ")", x.reach(1, style), -1);
            Check.due("reach(0, " + style + "): before BAD_VALUE", x.reach(0, style), -1);
            Check.due("reach(8000, " + style + "): before BAD_VALUE", x.reach(8000, style), -1);
        }
        Check.sentence("reach: BAD_VALUE if number is out of range");
        for (int number : NO_NUMBERS) {
            Check.due("reach(" + number + ", 0)", x.reach(number, 0), -2);
            Check.due("reach(" + number + ", 3)", x.reach(number, 3), -2);
        }
        Check.sentence("reach: Returns how many would");
        for (int without = 0; without <= 6; without++) {
            Check.due("reach(7999, 3), " + without + " without G", x.reach(7999, 3), 6 - without);
            if (without < 6) {
                x.unlearn(without, 2);
            }
        }
        Check.due("reach(399, 0)", x.reach(399, 0), 6);
    }

    private static void untellableErrors() {
        ScoreNumbers x = new ScoreNumbers();
        Check.sentence("untellable: NO_SUCH if there is no such hearer");
        for (int hearer : NO_HEARERS) {
            Check.due("untellable(" + hearer + ", 1, 1)", x.untellable(hearer, 1, 1), -1);
            Check.due("untellable(" + hearer + ", 0, 1)", x.untellable(hearer, 0, 1), -1);
            Check.due("untellable(" + hearer + ", 1, 41)", x.untellable(hearer, 1, 41), -1);
        }
        Check.sentence("untellable: BAD_VALUE if first or many is out of range");
        for (int first : NO_NUMBERS) {
            Check.due("untellable(5, " + first + ", 1)", x.untellable(5, first, 1), -2);
            Check.due("untellable(5, " + first + ", 40)", x.untellable(5, first, 40), -2);
        }
        for (int many : new int[] {0, 41, -1, Integer.MIN_VALUE, Integer.MAX_VALUE}) {
            Check.due("untellable(5, 1, " + many + ")", x.untellable(5, 1, many), -2);
            Check.due("untellable(5, 7999, " + many + ")", x.untellable(5, 7999, many), -2);
        }
    }

    private static void untellableAbove7999() {
        Check.sentence("untellable: how many numbers (those above 7999 do not count)");
        ScoreNumbers x = new ScoreNumbers();
        x.unlearn(0, 2);
        Check.due("untellable(0, 7999, 1)", x.untellable(0, 7999, 1), 1);
        Check.due("untellable(0, 7999, 2)", x.untellable(0, 7999, 2), 1);
        Check.due("untellable(0, 7999, 40)", x.untellable(0, 7999, 40), 1);
        Check.due("untellable(0, 7998, 40)", x.untellable(0, 7998, 40), 2);
        Check.due("untellable(0, 7961, 40)", x.untellable(0, 7961, 40), 39);
        Check.due("untellable(0, 7960, 40)", x.untellable(0, 7960, 40), 40);
        Check.due("untellable(0, 7959, 40)", x.untellable(0, 7959, 40), 40);
        Check.due("untellable(1, 7990, 40)", x.untellable(1, 7990, 40), 0);
    }

    private static void untellableManyNumbers() {
        Check.sentence("untellable: Returns how many of them have no way that the hearer would understand");
        ScoreNumbers x = new ScoreNumbers();
        x.unlearn(0, 2);
        Check.due("untellable(0, 399, 1)", x.untellable(0, 399, 1), 0);
        Check.due("untellable(0, 400, 1)", x.untellable(0, 400, 1), 1);
        Check.due("untellable(0, 360, 40)", x.untellable(0, 360, 40), 0);
        Check.due("untellable(0, 361, 40)", x.untellable(0, 361, 40), 1);
        Check.due("untellable(0, 1, 40)", x.untellable(0, 1, 40), 0);
        x.attend(5, 1);
        Check.due("untellable(5, 1, 40): a to s and S", x.untellable(5, 1, 40), 20);
        Check.due("untellable(5, 380, 40): G", x.untellable(5, 380, 40), 39);
        Check.due("untellable(5, 20, 1)", x.untellable(5, 20, 1), 0);
        Check.due("untellable(5, 21, 1)", x.untellable(5, 21, 1), 1);
    }

    private static void logErrors() {
        ScoreNumbers x = new ScoreNumbers();
        Check.sentence("log: BAD_VALUE if ago is below 0 or what is out of range");
        for (int told = 0; told <= 1; told++) {
            Check.due("log(-1, 0)", x.log(-1, 0), -2);
            Check.due("log(MIN, 4)", x.log(Integer.MIN_VALUE, 4), -2);
            for (int what : new int[] {-1, 5, Integer.MIN_VALUE, Integer.MAX_VALUE}) {
                Check.due("log(0, " + what + ")", x.log(0, what), -2);
                Check.due("log(10, " + what + "): before NONE", x.log(10, what), -2);
                Check.due("log(-1, " + what + ")", x.log(-1, what), -2);
            }
            x.tell(0, 1, 0);
        }
    }

    private static void logOfManyTellings() {
        Check.sentence("log: NONE if the log has not so many tellings (which keeps the latest 10)");
        for (int tellings : new int[] {0, 1, 9, 10, 11, 19, 20, 21, 100}) {
            ScoreNumbers x = new ScoreNumbers();
            for (int number = 1; number <= tellings; number++) {
                x.tell(number % 6, number, 0);
            }
            int kept = Math.min(tellings, 10);
            String call = "after " + tellings + " tellings log(";
            for (int ago = 0; ago < kept; ago++) {
                Check.due(call + ago + ", 0)", x.log(ago, 0), (tellings - ago) % 6);
                Check.due(call + ago + ", 1)", x.log(ago, 1), tellings - ago);
            }
            for (int what = 0; what <= 4; what++) {
                Check.due(call + kept + ", " + what + ")", x.log(kept, what), -5);
                Check.due(call + "10, " + what + ")", x.log(10, what), -5);
                Check.due(call + "MAX, " + what + ")", x.log(Integer.MAX_VALUE, what), -5);
            }
            Check.due("sum(0)", x.sum(0), tellings);
        }
    }

    private static void logLine(ScoreNumbers x, int... due) {
        for (int what = 0; what < due.length; what++) {
            Check.due("log(0, " + what + ")", x.log(0, what), due[what]);
        }
    }

    private static void logLines() {
        ScoreNumbers x = new ScoreNumbers();
        Check.sentence("log: 0 for the hearer; 1 for the number that was told");
        x.tell(0, 1, 0);
        logLine(x, 0, 1, 1, 1, 0);
        x.tell(5, 7999, 0);
        logLine(x, 5, 7999, 7, 7999, 0);
        Check.sentence("log: 2 for the length of the said text");
        x.attend(4, 1);
        Check.write(x, "HsG&s-HsS");
        x.tellText(4);
        logLine(x, 4, 7751, 9, 0, 0);
        Check.sentence("log: 3 for the number that was understood, 0 if nothing was");
        x.tell(4, 30, 1);
        logLine(x, 4, 30, 3, 0, 0);
        x.tell(4, 30, 3);
        logLine(x, 4, 30, 3, 20, 0);
        Check.sentence("log: 4 for 1 if a word became known by it, otherwise 0");
        for (int word = 0; word < 3; word++) {
            x.unlearn(3, word);
        }
        Check.write(x, "HbG&a-S");
        x.tellText(3);
        logLine(x, 3, 619, 7, 40 + 21, 0);
        x.tellText(3);
        // Three words became known at once, and the line says 1.
        logLine(x, 3, 619, 7, 40 + 21, 1);
        x.tellText(3);
        logLine(x, 3, 619, 7, 619, 0);
        x.unlearn(3, 0);
        x.learn(3, 0);
        logLine(x, 3, 619, 7, 619, 0);
    }

    private static void sum() {
        ScoreNumbers x = new ScoreNumbers();
        Check.sentence("sum: BAD_VALUE if what is out of range");
        for (int what : new int[] {-1, 4, Integer.MIN_VALUE, Integer.MAX_VALUE}) {
            Check.due("sum(" + what + ")", x.sum(what), -2);
        }
        Check.sentence("sum: 0 for tellings; 1 for errors; 2 for known words; 3 for doubts");
        int[] first = {0, 0, 18, 0};
        int[] last = {12, 6, 0, 18};
        for (int what = 0; what < 4; what++) {
            Check.due("sum(" + what + ") of a new object", x.sum(what), first[what]);
        }
        Check.write(x, "G&a-HbS");
        for (int hearer = 0; hearer < 6; hearer++) {
            for (int word = 0; word < 3; word++) {
                x.unlearn(hearer, word);
            }
            x.tell(hearer, 1, 0);
            x.tellText(hearer);
        }
        for (int what = 0; what < 4; what++) {
            Check.due("sum(" + what + ")", x.sum(what), last[what]);
        }
    }

    private static void patience() {
        Check.sentence("patience: Returns the value");
        ScoreNumbers x = new ScoreNumbers();
        Check.due("patience()", x.patience(), 2);
        x.set(1);
        Check.due("patience()", x.patience(), 1);
        x.set(0);
        Check.due("patience() after set(0)", x.patience(), 1);
        x.set(9);
        Check.due("patience()", x.patience(), 9);
        x.set(10);
        Check.due("patience() after set(10)", x.patience(), 9);
    }

    private static void share() {
        Check.sentence("share: 1.0f without tellings");
        ScoreNumbers x = new ScoreNumbers();
        Check.due("share()", x.share(), 1.0f);
        x.set(3);
        x.unlearn(0, 0);
        x.tell(6, 1, 0);
        x.tell(0, 0, 0);
        x.tellText(0);
        Check.due("share() after wrong tellings", x.share(), 1.0f);
        Check.sentence("share: Returns the share of the tellings that were no errors");
        x.tell(0, 30, 0);
        Check.due("share() of one error", x.share(), 0.0f);
        x.undo();
        Check.due("share() of none again", x.share(), 1.0f);
        x.tell(0, 30, 3);
        Check.due("share() of one that is none", x.share(), 1.0f);
    }

    private static void shareOfManyTellings() {
        Check.sentence("share: Returns their number, as a float, divided by the number of tellings, as a float");
        ScoreNumbers x = new ScoreNumbers();
        x.attend(0, 1);
        int good = 0;
        for (int told = 1; told <= 255; told++) {
            // Every third telling is an error of hearer 0; the others go to hearer 5.
            if (told % 3 == 0) {
                x.tell(0, 21, 0);
            } else {
                x.tell(5, 21, 0);
                good++;
            }
            Check.due("share() of " + good + " in " + told, x.share(), (float) good / (float) told);
        }
    }
}
