import java.util.List;

/** Promises 8 append, 9 clearText, 10 fault, 11 meaning, 17 placeOfText. */
public final class TextTest {
    private static final String SIGNS = "HSG&+-abs tA";

    private TextTest() {
    }

    public static void main(String[] args) {
        appendAndClear();
        faults();
        meanings();
        places();
        hearersDoNotMatter();
        allShortTexts(new ScoreNumbers(), "");
        allSpokenNumbers();
        Check.end();
    }

    private static void appendAndClear() {
        ScoreNumbers x = new ScoreNumbers();
        Check.due("clearText() of a new object", x.clearText(), 0);
        Check.due("append(31)", x.append(31), -2);
        Check.due("append(127)", x.append(127), -2);
        Check.due("append(-1)", x.append(-1), -2);
        Check.due("append(65536 + 83)", x.append(65536 + 83), -2);
        Check.due("append(MIN)", x.append(Integer.MIN_VALUE), -2);
        Check.due("append(MAX)", x.append(Integer.MAX_VALUE), -2);
        Check.due("append(32)", x.append(32), 1);
        Check.due("append(126)", x.append(126), 2);
        for (int length = 3; length <= 20; length++) {
            Check.due("append(83)", x.append('S'), length);
        }
        Check.due("append(83) to 20", x.append('S'), -4);
        Check.due("append(127) to 20: BAD_VALUE is checked first", x.append(127), -2);
        Check.due("clearText() of 20", x.clearText(), 20);
        Check.due("clearText() again", x.clearText(), 0);
        Check.due("append(83) after clearText", x.append('S'), 1);
        Check.due("meaning() after clearText", x.meaning(), 20);
    }

    private static void fault(String text, int due) {
        ScoreNumbers x = new ScoreNumbers();
        Check.write(x, text);
        Check.due("fault() of " + text, x.fault(), due);
        Check.due("clearText() after fault() of " + text, x.clearText(), text.length());
    }

    private static void faults() {
        fault("", 0);
        fault(" ", 0);
        fault("t", 0);
        fault("A", 0);
        fault("&", 0);
        fault("+S", 0);
        fault("-S", 0);
        fault("aS", 1);
        fault("aG", 1);
        fault("HaS", 1);
        fault("HS", 1);
        fault("HG", 1);
        fault("HHbS", 1);
        fault("Hb", 2);
        fault("Hb+", 2);
        fault("bHS", 1);
        fault("S+", 2);
        fault("S+t", 2);
        fault("S+a", -5);
        fault("S+S", 2);
        fault("S+aS", 3);
        fault("S+a+a", 3);
        fault("S-a", 1);
        fault("a-", 2);
        fault("a-S", -5);
        fault("a-aS", 2);
        fault("a-HaS", 3);
        fault("a-HS", 3);
        fault("a-b", 3);
        fault("a-bS", -5);
        fault("a-S+a", 3);
        fault("a-G", 2);
        fault("a-bG", 3);
        fault("a-HbG", 4);
        fault("a+S", 1);
        fault("G", -5);
        fault("G&", 2);
        fault("G&G", 2);
        fault("G&bG", 3);
        fault("G&HbG", 4);
        fault("G&aS", 3);
        fault("G+a", 1);
        fault("G-S", 1);
        fault("GS", 1);
        fault("S&a", 1);
        fault("G&a&a", 3);
        fault("HsG&s-HsS", -5);
        fault("HsG&s-HsSS", 9);
        fault("HsG&HsS+sabcdefghijk", 9);
        fault("SSSSSSSSSSSSSSSSSSSS", 1);
    }

    private static void meaning(String text, int due) {
        ScoreNumbers x = new ScoreNumbers();
        Check.write(x, text);
        Check.due("meaning() of " + text, x.meaning(), due);
    }

    private static void meanings() {
        meaning("", -3);
        meaning("x", -3);
        meaning("Hb", -3);
        meaning("G&", -3);
        meaning("a", 1);
        meaning("s", 19);
        meaning("S", 20);
        meaning("bS", 40);
        meaning("sS", 380);
        meaning("HbS", 30);
        meaning("HsS", 370);
        meaning("S+a", 21);
        meaning("sS+s", 399);
        meaning("a-S", 19);
        meaning("s-S", 1);
        meaning("b-HcS", 48);
        meaning("G", 400);
        meaning("bG", 800);
        meaning("sG", 7600);
        meaning("HbG", 600);
        meaning("HsG", 7400);
        meaning("G&a", 401);
        meaning("sG&sS+s", 7999);
        meaning("HsG&s-HsS", 7751);
    }

    private static void place(String text, int due) {
        ScoreNumbers x = new ScoreNumbers();
        Check.write(x, text);
        Check.due("placeOfText() of " + text, x.placeOfText(), due);
    }

    private static void places() {
        place("", -3);
        place("HbS+", -3);
        place("a", 0);
        place("s-S", 1);
        place("HcS", 0);
        place("bS+j", 1);
        place("j-cS", 2);
        place("G", 0);
        place("HbG&a-HbS", Oracle.place("HbG&a-HbS"));
    }

    /** What a text means is one thing, what the hearers understand of it another. */
    private static void hearersDoNotMatter() {
        ScoreNumbers x = new ScoreNumbers();
        for (int hearer = 0; hearer < 6; hearer++) {
            for (int word = 0; word < 3; word++) {
                x.unlearn(hearer, word);
            }
            x.attend(hearer, 1);
        }
        for (String text : new String[] {"HbS", "j-cS", "bS+j", "G", "HbG&a-HbS", "HsG&s-HsS"}) {
            Check.write(x, text);
            Check.due("fault() of " + text + ", known to nobody", x.fault(), -5);
            Check.due("meaning() of " + text + ", known to nobody", x.meaning(), Oracle.MEANINGS.get(text));
            Check.due("placeOfText() of " + text + ", known to nobody", x.placeOfText(), Oracle.place(text));
            Check.due("tellText(3) of " + text, x.tellText(3), 0);
            Check.due("log(0, 1) of " + text, x.log(0, 1), Oracle.MEANINGS.get(text));
            Check.due("meaning() of " + text + " after tellText", x.meaning(), Oracle.MEANINGS.get(text));
        }
    }

    /** Every text of a few signs, up to five characters, as far as its beginning is no fault. */
    private static void allShortTexts(ScoreNumbers x, String text) {
        int fault = Oracle.fault(text);
        Check.write(x, text);
        Check.due("fault() of '" + text + "'", x.fault(), fault);
        int meaning = fault == -5 ? Oracle.MEANINGS.get(text) : -3;
        Check.due("meaning() of '" + text + "'", x.meaning(), meaning);
        int place = fault == -5 ? Oracle.place(text) : -3;
        Check.due("placeOfText() of '" + text + "'", x.placeOfText(), place);
        if (text.length() == 5 || fault >= 0 && fault < text.length()) {
            return;
        }
        for (int i = 0; i < SIGNS.length(); i++) {
            allShortTexts(new ScoreNumbers(), text + SIGNS.charAt(i));
        }
    }

    private static void allSpokenNumbers() {
        for (List<String> ways : Oracle.WAYS.values()) {
            ScoreNumbers x = new ScoreNumbers();
            for (String way : ways) {
                Check.write(x, way);
                Check.due("meaning() of " + way, x.meaning(), Oracle.MEANINGS.get(way));
                Check.due("fault() of " + way, x.fault(), -5);
                Check.due("placeOfText() of " + way, x.placeOfText(), ways.indexOf(way));
            }
        }
    }
}
