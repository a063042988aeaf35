/** Compares answers with what is due, and ends a test with 1 if one was wrong. */
final class Check {
    private static final int SHOWN = 40;
    private static int wrong = 0;
    private static String sentence = "";

    private Check() {
    }

    /** The sentence of the document that the following calls test; it is told with each fault. */
    static void sentence(String words) {
        sentence = words + ": ";
    }

    static void due(String call, long got, long want) {
        if (got != want) {
            tell(call + " answered " + got + ", due is " + want);
        }
    }

    static void due(String call, float got, float want) {
        if (got != want) {
            tell(call + " answered " + got + ", due is " + want);
        }
    }

    static void due(String call, String got, String want) {
        if (!got.equals(want)) {
            tell(call + " is " + got + ", due is " + want);
        }
    }

    static void tell(String fault) {
        wrong++;
        if (wrong <= SHOWN) {
            System.out.println(sentence + fault);
        }
    }

    static void end() {
        System.out.println(wrong == 0 ? "all answers are as due" : wrong + " answers are not as due");
        if (wrong != 0) {
            System.exit(1);
        }
    }

    /** Puts a text in place of the one that is there. */
    static void write(ScoreNumbers x, String text) {
        x.clearText();
        for (int i = 0; i < text.length(); i++) {
            due("append(" + text.charAt(i) + ")", x.append(text.charAt(i)), i + 1);
        }
    }

    /** Reads a whole way, "" if there is none. */
    static String way(ScoreNumbers x, int number, int place) {
        StringBuilder way = new StringBuilder();
        for (int i = 0; i < 30; i++) {
            int character = x.wayAt(number, place, i);
            if (character < 0) {
                break;
            }
            way.append((char) character);
        }
        return way.toString();
    }

    /** Everything that can be asked of the state and the text, in some 120 calls. */
    static String seen(ScoreNumbers x) {
        StringBuilder seen = new StringBuilder();
        for (int hearer = 0; hearer < 6; hearer++) {
            for (int what = 0; what <= 8; what++) {
                seen.append(x.hearer(hearer, what)).append(' ');
            }
        }
        for (int ago = 0; ago <= 10; ago++) {
            for (int what = 0; what <= 4; what++) {
                seen.append(x.log(ago, what)).append(' ');
            }
        }
        for (int what = 0; what <= 3; what++) {
            seen.append(x.sum(what)).append(' ');
        }
        seen.append(x.patience()).append(' ').append(x.share()).append(' ');
        seen.append(x.fault()).append(' ').append(x.meaning()).append(' ').append(x.placeOfText());
        return seen.toString();
    }
}
