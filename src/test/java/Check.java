/** Compares answers with what is due, and ends a test with 1 if one was wrong. */
final class Check {
    private static final int SHOWN = 40;
    private static int wrong = 0;

    private Check() {
    }

    static void due(String call, long got, long want) {
        if (got != want) {
            tell(call + " answered " + got + ", due is " + want);
        }
    }

    static void due(String call, float got, float want) {
        if (got != want) {
            tell(call + " answered " + got + ", due is " + want);
        }
    }

    static void tell(String fault) {
        wrong++;
        if (wrong <= SHOWN) {
            System.out.println(fault);
        }
    }

    static void end() {
        System.out.println(wrong == 0 ? "all answers are as due" : wrong + " answers are not as due");
        if (wrong != 0) {
            System.exit(1);
        }
    }

    /** Puts a text in place of the one that is there. */
    static void write(ScoreNumbers x, String text) {
        x.clearText();
        for (int i = 0; i < text.length(); i++) {
            due("append(" + text.charAt(i) + ")", x.append(text.charAt(i)), i + 1);
        }
    }

    /** Reads a whole way, "" if there is none. */
    static String way(ScoreNumbers x, int number, int place) {
        StringBuilder way = new StringBuilder();
        for (int i = 0; i < 30; i++) {
            int character = x.wayAt(number, place, i);
            if (character < 0) {
                break;
            }
            way.append((char) character);
        }
        return way.toString();
    }
}
