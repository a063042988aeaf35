import java.util.ArrayDeque;
import java.util.ArrayList;
import java.util.Deque;
import java.util.List;

/** The whole class once more, plain and slow, upon the texts of Oracle. */
final class Model {
    private static final String WORDS = "H-G";
    private static final int NO_SUCH = -1;
    private static final int BAD_VALUE = -2;
    private static final int BAD_TEXT = -3;
    private static final int TOO_MANY = -4;
    private static final int NONE = -5;

    private static final class Listener {
        boolean[] known = {true, true, true};
        int[] doubt = new int[3];
        int attention = 12;
        int told;
        int errors;

        Listener copy() {
            Listener copy = new Listener();
            copy.known = known.clone();
            copy.doubt = doubt.clone();
            copy.attention = attention;
            copy.told = told;
            copy.errors = errors;
            return copy;
        }

        int heard(String said) {
            return Oracle.heard(said, attention, known[0], known[1], known[2]);
        }

        int knownWords() {
            int count = 0;
            for (boolean one : known) {
                count += one ? 1 : 0;
            }
            return count;
        }
    }

    private static final class World {
        List<Listener> listeners = new ArrayList<>();
        List<int[]> log = new ArrayList<>();
        int patience = 2;

        World copy() {
            World copy = new World();
            for (Listener listener : listeners) {
                copy.listeners.add(listener.copy());
            }
            copy.log.addAll(log);
            copy.patience = patience;
            return copy;
        }
    }

    private World world = new World();
    private final Deque<World> history = new ArrayDeque<>();
    private String text = "";

    Model() {
        for (int i = 0; i < 6; i++) {
            world.listeners.add(new Listener());
        }
    }

    private static boolean in(int value, int low, int high) {
        return low <= value && value <= high;
    }

    private void record() {
        history.addLast(world.copy());
        if (history.size() > 4) {
            history.removeFirst();
        }
    }

    int putWord(int hearer, int word, boolean known) {
        if (!in(hearer, 0, 5) || !in(word, 0, 2)) {
            return NO_SUCH;
        }
        record();
        Listener listener = world.listeners.get(hearer);
        listener.known[word] = known;
        listener.doubt[word] = 0;
        return listener.knownWords();
    }

    int attend(int hearer, int attention) {
        if (!in(hearer, 0, 5)) {
            return NO_SUCH;
        }
        if (!in(attention, 1, 12)) {
            return BAD_VALUE;
        }
        record();
        Listener listener = world.listeners.get(hearer);
        int previous = listener.attention;
        listener.attention = attention;
        return previous;
    }

    int set(int patience) {
        if (!in(patience, 1, 9)) {
            return BAD_VALUE;
        }
        record();
        int previous = world.patience;
        world.patience = patience;
        return previous;
    }

    int tell(int hearer, int number, int style) {
        if (!in(hearer, 0, 5) || !in(style, 0, 3)) {
            return NO_SUCH;
        }
        if (!in(number, 1, 7999)) {
            return BAD_VALUE;
        }
        return say(hearer, number, Oracle.WAYS.get(number).get(Oracle.styled(number, style)));
    }

    int tellText(int hearer) {
        if (!in(hearer, 0, 5)) {
            return NO_SUCH;
        }
        if (fault() != NONE) {
            return BAD_TEXT;
        }
        return say(hearer, Oracle.MEANINGS.get(text), text);
    }

    private int say(int hearer, int number, String said) {
        record();
        Listener listener = world.listeners.get(hearer);
        int heard = listener.heard(said);
        int learned = 0;
        listener.told++;
        if (heard != number) {
            listener.errors++;
            for (int word = 0; word < 3; word++) {
                if (!listener.known[word] && said.indexOf(WORDS.charAt(word)) >= 0) {
                    listener.doubt[word]++;
                    if (listener.doubt[word] >= world.patience) {
                        listener.known[word] = true;
                        listener.doubt[word] = 0;
                        learned = 1;
                    }
                }
            }
        }
        world.log.add(new int[] {hearer, number, said.length(), heard, learned});
        return heard == number ? 1 : 0;
    }

    int append(int character) {
        if (!in(character, 32, 126)) {
            return BAD_VALUE;
        }
        if (text.length() == 20) {
            return TOO_MANY;
        }
        text += (char) character;
        return text.length();
    }

    int clearText() {
        int length = text.length();
        text = "";
        return length;
    }

    int fault() {
        return Oracle.fault(text);
    }

    int meaning() {
        return fault() == NONE ? Oracle.MEANINGS.get(text) : BAD_TEXT;
    }

    int undo() {
        if (history.isEmpty()) {
            return NONE;
        }
        world = history.removeLast();
        return history.size();
    }

    int ways(int number) {
        return in(number, 1, 7999) ? Oracle.WAYS.get(number).size() : BAD_VALUE;
    }

    int wayLength(int number, int place) {
        if (!in(number, 1, 7999) || place < 0) {
            return BAD_VALUE;
        }
        List<String> ways = Oracle.WAYS.get(number);
        return place < ways.size() ? ways.get(place).length() : NONE;
    }

    int wayAt(int number, int place, int index) {
        if (!in(number, 1, 7999) || place < 0 || index < 0) {
            return BAD_VALUE;
        }
        List<String> ways = Oracle.WAYS.get(number);
        return place < ways.size() && index < ways.get(place).length()
                ? ways.get(place).charAt(index) : NONE;
    }

    int styled(int number, int style) {
        if (!in(style, 0, 3)) {
            return NO_SUCH;
        }
        return in(number, 1, 7999) ? Oracle.styled(number, style) : BAD_VALUE;
    }

    int placeOfText() {
        return fault() == NONE ? Oracle.place(text) : BAD_TEXT;
    }

    int hearer(int hearer, int what) {
        if (!in(hearer, 0, 5)) {
            return NO_SUCH;
        }
        if (!in(what, 0, 8)) {
            return BAD_VALUE;
        }
        Listener listener = world.listeners.get(hearer);
        if (what < 3) {
            return listener.known[what] ? 1 : 0;
        }
        if (what < 6) {
            return listener.doubt[what - 3];
        }
        return what == 6 ? listener.attention : what == 7 ? listener.told : listener.errors;
    }

    int understood(int hearer, int number, int place) {
        if (!in(hearer, 0, 5)) {
            return NO_SUCH;
        }
        if (!in(number, 1, 7999) || place < 0) {
            return BAD_VALUE;
        }
        List<String> ways = Oracle.WAYS.get(number);
        if (place >= ways.size()) {
            return NONE;
        }
        int heard = world.listeners.get(hearer).heard(ways.get(place));
        return heard == 0 ? NONE : heard;
    }

    int understoodText(int hearer) {
        if (!in(hearer, 0, 5)) {
            return NO_SUCH;
        }
        if (fault() != NONE) {
            return BAD_TEXT;
        }
        int heard = world.listeners.get(hearer).heard(text);
        return heard == 0 ? NONE : heard;
    }

    int bestWay(int hearer, int number) {
        if (!in(hearer, 0, 5)) {
            return NO_SUCH;
        }
        if (!in(number, 1, 7999)) {
            return BAD_VALUE;
        }
        List<String> ways = Oracle.WAYS.get(number);
        for (String way : ways) {
            if (world.listeners.get(hearer).heard(way) == number) {
                return ways.indexOf(way);
            }
        }
        return NONE;
    }

    private int hearersOf(String way, int number) {
        int count = 0;
        for (Listener listener : world.listeners) {
            count += listener.heard(way) == number ? 1 : 0;
        }
        return count;
    }

    int commonWay(int number) {
        if (!in(number, 1, 7999)) {
            return BAD_VALUE;
        }
        List<String> ways = Oracle.WAYS.get(number);
        int best = -1;
        int most = -1;
        for (int place = 0; place < ways.size(); place++) {
            int count = hearersOf(ways.get(place), number);
            if (count > most) {
                most = count;
                best = place;
            }
        }
        return best;
    }

    int reach(int number, int style) {
        if (!in(style, 0, 3)) {
            return NO_SUCH;
        }
        if (!in(number, 1, 7999)) {
            return BAD_VALUE;
        }
        return hearersOf(Oracle.WAYS.get(number).get(Oracle.styled(number, style)), number);
    }

    int untellable(int hearer, int first, int many) {
        if (!in(hearer, 0, 5)) {
            return NO_SUCH;
        }
        if (!in(first, 1, 7999) || !in(many, 1, 40)) {
            return BAD_VALUE;
        }
        int count = 0;
        for (int i = 0; i < many; i++) {
            if (first + i <= 7999 && bestWay(hearer, first + i) == NONE) {
                count++;
            }
        }
        return count;
    }

    int log(int ago, int what) {
        if (ago < 0 || !in(what, 0, 4)) {
            return BAD_VALUE;
        }
        return ago < 10 && ago < world.log.size()
                ? world.log.get(world.log.size() - 1 - ago)[what] : NONE;
    }

    int sum(int what) {
        if (!in(what, 0, 3)) {
            return BAD_VALUE;
        }
        int sum = 0;
        for (Listener listener : world.listeners) {
            switch (what) {
                case 0 -> sum += listener.told;
                case 1 -> sum += listener.errors;
                case 2 -> sum += listener.knownWords();
                default -> sum += listener.doubt[0] + listener.doubt[1] + listener.doubt[2];
            }
        }
        return sum;
    }

    int patience() {
        return world.patience;
    }

    float share() {
        return sum(0) == 0 ? 1.0f : (float) (sum(0) - sum(1)) / (float) sum(0);
    }
}
