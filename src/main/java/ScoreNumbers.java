/** Numbers that are spoken by scores and halves, and the hearers to whom they are told. */
public final class ScoreNumbers {
    public static final int NO_SUCH = -1;
    public static final int BAD_VALUE = -2;
    public static final int BAD_TEXT = -3;
    public static final int TOO_MANY = -4;
    public static final int NONE = -5;

    private static final int HEARERS = 6;
    private static final int WORDS = 3;
    private static final int STYLES = 4;
    private static final int TOP_NUMBER = 7999;
    private static final int TOP_ATTENTION = 12;
    private static final int TOP_PATIENCE = 9;
    private static final int TOP_MANY = 40;
    private static final int TEXT_ROOM = 20;

    // The columns of a hearer's row: they are the "what" of the method hearer.
    private static final int KNOWN = 0;
    private static final int DOUBT = 3;
    private static final int ATTENTION = 6;
    private static final int TOLD = 7;
    private static final int ERRORS = 8;
    private static final int HEARER_COLUMNS = 9;

    // The columns of a row of the log: they are the "what" of the method log.
    private static final int LOG_HEARER = 0;
    private static final int LOG_NUMBER = 1;
    private static final int LOG_LENGTH = 2;
    private static final int LOG_UNDERSTOOD = 3;
    private static final int LOG_LEARNED = 4;
    private static final int LOG_COLUMNS = 5;

    private final State now = new State();
    private final History history = new History();
    private final char[] text = new char[TEXT_ROOM];
    private int textLength = 0;
    // These two are made once and used by all calls, so that no call makes an object.
    private final Ways found = new Ways();
    private final Ear ear = new Ear();

    public ScoreNumbers() {
    }

    // ---- hearers

    public int learn(int hearer, int word) {
        return putWord(hearer, word, 1);
    }

    public int unlearn(int hearer, int word) {
        return putWord(hearer, word, 0);
    }

    public int attend(int hearer, int attention) {
        if (!isHearer(hearer)) {
            return NO_SUCH;
        }
        if (attention < 1 || attention > TOP_ATTENTION) {
            return BAD_VALUE;
        }
        history.record(now);
        int[] row = now.hearers[hearer];
        int previous = row[ATTENTION];
        row[ATTENTION] = attention;
        return previous;
    }

    public int set(int patience) {
        if (patience < 1 || patience > TOP_PATIENCE) {
            return BAD_VALUE;
        }
        history.record(now);
        int previous = now.patience;
        now.patience = patience;
        return previous;
    }

    public int tell(int hearer, int number, int style) {
        if (!isHearer(hearer) || !isStyle(style)) {
            return NO_SUCH;
        }
        if (!isNumber(number)) {
            return BAD_VALUE;
        }
        found.find(number);
        return say(hearer, number, found.at(found.placeOfStyle(style)));
    }

    public int tellText(int hearer) {
        if (!isHearer(hearer)) {
            return NO_SUCH;
        }
        if (fault() != NONE) {
            return BAD_TEXT;
        }
        long said = packedText();
        return say(hearer, meant(said), said);
    }

    // ---- text and history

    public int append(int character) {
        if (character < 32 || character > 126) {
            return BAD_VALUE;
        }
        if (textLength < 0 || textLength >= TEXT_ROOM) {
            return TOO_MANY;
        }
        text[textLength] = (char) character;
        textLength++;
        return textLength;
    }

    public int clearText() {
        int previous = textLength;
        textLength = 0;
        return previous;
    }

    public int fault() {
        ear.listen(true, true, true);
        for (int i = 0; i < textLength && i < TEXT_ROOM; i++) {
            if (!ear.take(text[i])) {
                return i;
            }
        }
        return ear.isComplete() ? NONE : textLength;
    }

    public int meaning() {
        return fault() != NONE ? BAD_TEXT : meant(packedText());
    }

    public int undo() {
        return history.restore(now);
    }

    // ---- ways; these methods change nothing

    public int ways(int number) {
        if (!isNumber(number)) {
            return BAD_VALUE;
        }
        found.find(number);
        return found.many;
    }

    public int wayLength(int number, int place) {
        if (!isNumber(number) || place < 0) {
            return BAD_VALUE;
        }
        found.find(number);
        return place < found.many ? Said.length(found.at(place)) : NONE;
    }

    public int wayAt(int number, int place, int index) {
        if (!isNumber(number) || place < 0 || index < 0) {
            return BAD_VALUE;
        }
        found.find(number);
        if (place >= found.many) {
            return NONE;
        }
        long said = found.at(place);
        int length = Said.length(said);
        return index < length ? Said.character(said, length - 1 - index) : NONE;
    }

    public int styled(int number, int style) {
        if (!isStyle(style)) {
            return NO_SUCH;
        }
        if (!isNumber(number)) {
            return BAD_VALUE;
        }
        found.find(number);
        return found.placeOfStyle(style);
    }

    public int placeOfText() {
        if (fault() != NONE) {
            return BAD_TEXT;
        }
        long said = packedText();
        found.find(meant(said));
        return found.placeOf(said);
    }

    // ---- hearers; these methods change nothing

    public int hearer(int hearer, int what) {
        if (!isHearer(hearer)) {
            return NO_SUCH;
        }
        if (what < 0 || what >= HEARER_COLUMNS) {
            return BAD_VALUE;
        }
        return now.hearers[hearer][what];
    }

    public int understood(int hearer, int number, int place) {
        if (!isHearer(hearer)) {
            return NO_SUCH;
        }
        if (!isNumber(number) || place < 0) {
            return BAD_VALUE;
        }
        found.find(number);
        if (place >= found.many) {
            return NONE;
        }
        return orNone(heard(hearer, found.at(place)));
    }

    public int understoodText(int hearer) {
        if (!isHearer(hearer)) {
            return NO_SUCH;
        }
        if (fault() != NONE) {
            return BAD_TEXT;
        }
        return orNone(heard(hearer, packedText()));
    }

    public int bestWay(int hearer, int number) {
        if (!isHearer(hearer)) {
            return NO_SUCH;
        }
        if (!isNumber(number)) {
            return BAD_VALUE;
        }
        return firstUnderstood(hearer, number);
    }

    public int commonWay(int number) {
        if (!isNumber(number)) {
            return BAD_VALUE;
        }
        found.find(number);
        int best = 0;
        int most = 0;
        for (int place = 0; place < found.many; place++) {
            int many = reached(number, found.at(place));
            if (many > most) {
                most = many;
                best = place;
            }
        }
        return best;
    }

    public int reach(int number, int style) {
        if (!isStyle(style)) {
            return NO_SUCH;
        }
        if (!isNumber(number)) {
            return BAD_VALUE;
        }
        found.find(number);
        return reached(number, found.at(found.placeOfStyle(style)));
    }

    public int untellable(int hearer, int first, int many) {
        if (!isHearer(hearer)) {
            return NO_SUCH;
        }
        if (!isNumber(first) || many < 1 || many > TOP_MANY) {
            return BAD_VALUE;
        }
        int last = Math.min(first + many - 1, TOP_NUMBER);
        int count = 0;
        for (int number = first; number <= last; number++) {
            if (firstUnderstood(hearer, number) == NONE) {
                count++;
            }
        }
        return count;
    }

    public int log(int ago, int what) {
        if (ago < 0 || what < 0 || what >= LOG_COLUMNS) {
            return BAD_VALUE;
        }
        return ago < now.kept ? now.told(ago, what) : NONE;
    }

    public int sum(int what) {
        switch (what) {
            case 0:
                return now.total(TOLD, 1);
            case 1:
                return now.total(ERRORS, 1);
            case 2:
                return now.total(KNOWN, WORDS);
            case 3:
                return now.total(DOUBT, WORDS);
            default:
                return BAD_VALUE;
        }
    }

    public int patience() {
        return now.patience;
    }

    public float share() {
        int tellings = now.total(TOLD, 1);
        if (tellings <= 0) {
            return 1.0f;
        }
        int good = tellings - now.total(ERRORS, 1);
        return (float) good / (float) tellings;
    }

    // ---- what the calls share

    private static boolean isHearer(int hearer) {
        return hearer >= 0 && hearer < HEARERS;
    }

    private static boolean isWord(int word) {
        return word >= 0 && word < WORDS;
    }

    private static boolean isStyle(int style) {
        return style >= 0 && style < STYLES;
    }

    private static boolean isNumber(int number) {
        return number >= 1 && number <= TOP_NUMBER;
    }

    private static int orNone(int understood) {
        return understood == 0 ? NONE : understood;
    }

    private int putWord(int hearer, int word, int known) {
        if (!isHearer(hearer) || !isWord(word)) {
            return NO_SUCH;
        }
        history.record(now);
        int[] row = now.hearers[hearer];
        row[KNOWN + word] = known;
        row[DOUBT + word] = 0;
        int count = 0;
        for (int i = 0; i < WORDS; i++) {
            count += row[KNOWN + i];
        }
        return count;
    }

    /** The text in the form of a way; only a text without a fault is short enough for it. */
    private long packedText() {
        long said = Said.NOTHING;
        for (int i = 0; i < textLength && i < TEXT_ROOM; i++) {
            said = Said.then(said, text[i]);
        }
        return said;
    }

    private int meant(long said) {
        ear.listen(true, true, true);
        return ear.hear(said, TOP_ATTENTION);
    }

    /** What a hearer understands, 0 if nothing. */
    private int heard(int hearer, long said) {
        int[] row = now.hearers[hearer];
        ear.listen(row[KNOWN] == 1, row[KNOWN + 1] == 1, row[KNOWN + 2] == 1);
        return ear.hear(said, row[ATTENTION]);
    }

    private int reached(int number, long said) {
        int count = 0;
        for (int hearer = 0; hearer < HEARERS; hearer++) {
            if (heard(hearer, said) == number) {
                count++;
            }
        }
        return count;
    }

    private int firstUnderstood(int hearer, int number) {
        found.find(number);
        for (int place = 0; place < found.many; place++) {
            if (heard(hearer, found.at(place)) == number) {
                return place;
            }
        }
        return NONE;
    }

    private int say(int hearer, int number, long said) {
        history.record(now);
        int understood = heard(hearer, said);
        boolean error = understood != number;
        int[] row = now.hearers[hearer];
        row[TOLD]++;
        boolean learned = false;
        if (error) {
            row[ERRORS]++;
            learned = doubtWords(row, said);
        }
        int[] line = now.nextLine();
        line[LOG_HEARER] = hearer;
        line[LOG_NUMBER] = number;
        line[LOG_LENGTH] = Said.length(said);
        line[LOG_UNDERSTOOD] = understood;
        line[LOG_LEARNED] = learned ? 1 : 0;
        return error ? 0 : 1;
    }

    /** Tells whether a word became known. */
    private boolean doubtWords(int[] row, long said) {
        boolean learned = false;
        for (int word = 0; word < WORDS; word++) {
            if (row[KNOWN + word] == 0 && Said.has(said, wordCharacter(word))) {
                row[DOUBT + word]++;
                if (row[DOUBT + word] >= now.patience) {
                    row[KNOWN + word] = 1;
                    row[DOUBT + word] = 0;
                    learned = true;
                }
            }
        }
        return learned;
    }

    private static char wordCharacter(int word) {
        switch (word) {
            case 0:
                return 'H';
            case 1:
                return '-';
            default:
                return 'G';
        }
    }

    /**
     * A spoken number as one long: 7 bits for each character, the first one highest. It has at
     * most 9 characters, and none is 0: so the longs stand in the very order of the ways, the
     * short ones first, then by the first characters in which they are unlike.
     */
    private static final class Said {
        static final long NOTHING = 0L;
        private static final int BITS = 7;
        private static final int MOST = 9;

        static long then(long said, int character) {
            return said << BITS | character;
        }

        static int length(long said) {
            int length = 0;
            while (length < MOST && said >>> BITS * length != 0) {
                length++;
            }
            return length;
        }

        /** The character that has so many others behind it. */
        static int character(long said, int behind) {
            return behind >= 0 && behind < MOST ? (int) (said >>> BITS * behind) & 127 : 0;
        }

        static boolean has(long said, char wanted) {
            for (int behind = 0; behind < MOST; behind++) {
                if (character(said, behind) == wanted) {
                    return true;
                }
            }
            return false;
        }
    }

    /** All ways to say one number, in their order. */
    private static final class Ways {
        // No number has more than 8 ways: two greats, and four smalls behind each.
        private static final int ROOM = 16;
        private static final int TOP_SMALL = 399;

        private final long[] said = new long[ROOM];
        int many = 0;

        void find(int number) {
            many = 0;
            addSmalls(Said.NOTHING, number);
            // Only a great that leaves 0 to 399 can help.
            int first = Math.max(400, (number - 200) / 200 * 200);
            int last = Math.min(7600, number);
            for (int great = first; great <= last; great += 200) {
                addGreat(great, number - great);
            }
        }

        long at(int place) {
            return place >= 0 && place < ROOM ? said[place] : Said.NOTHING;
        }

        int placeOf(long way) {
            for (int place = 0; place < many && place < ROOM; place++) {
                if (said[place] == way) {
                    return place;
                }
            }
            return 0;
        }

        int placeOfStyle(int style) {
            for (int place = 0; place < many; place++) {
                if (isOfStyle(at(place), style)) {
                    return place;
                }
            }
            return 0;
        }

        private static boolean isOfStyle(long way, int style) {
            switch (style) {
                case 1:
                    return Said.has(way, 'H');
                case 2:
                    return Said.has(way, '-');
                case 3:
                    return !Said.has(way, 'H') && !Said.has(way, '-');
                default:
                    return true;
            }
        }

        private void addGreat(int great, int rest) {
            long front = counted(Said.NOTHING, great / 200, 'G');
            if (rest == 0) {
                add(front);
            } else {
                addSmalls(Said.then(front, '&'), rest);
            }
        }

        private void addSmalls(long front, int small) {
            if (small < 1 || small > TOP_SMALL) {
                return;
            }
            if (small <= 19) {
                add(Said.then(front, unit(small)));
            }
            // Only a base that is at most 19 away can help.
            int first = Math.max(20, (small - 10) / 10 * 10);
            int last = Math.min(380, small + 19);
            for (int base = first; base <= last; base += 10) {
                addWithBase(front, base, small - base);
            }
        }

        private void addWithBase(long front, int base, int rest) {
            int halves = base / 10;
            if (rest == 0) {
                add(counted(front, halves, 'S'));
            } else if (rest >= 1 && rest <= 19) {
                long plus = Said.then(counted(front, halves, 'S'), '+');
                add(Said.then(plus, unit(rest)));
            } else if (rest >= -19 && rest <= -1) {
                long less = Said.then(Said.then(front, unit(-rest)), '-');
                add(counted(less, halves, 'S'));
            }
        }

        /** A word behind its count, which is told in halves of what the word means. */
        private static long counted(long front, int halves, char word) {
            long way = front;
            if (halves % 2 == 1) {
                way = Said.then(way, 'H');
            }
            if (halves > 2) {
                way = Said.then(way, unit((halves + 1) / 2));
            }
            return Said.then(way, word);
        }

        private static int unit(int value) {
            return 'a' + value - 1;
        }

        private void add(long way) {
            if (many < 0 || many >= ROOM) {
                return;
            }
            int place = many;
            while (place > 0 && said[place - 1] > way) {
                said[place] = said[place - 1];
                place--;
            }
            said[place] = way;
            many++;
        }
    }

    /** Takes a spoken number character by character, as one who may not know all words. */
    private static final class Ear {
        // What the characters so far end with.
        private static final int START = 0; // nothing, or "&"
        private static final int HALF = 1; // "H"
        private static final int COUNT = 2; // "H" and a unit
        private static final int UNIT = 3; // a unit, which may be a count
        private static final int ONE = 4; // the unit a, which is no count
        private static final int GREAT = 5; // a great
        private static final int BASE = 6; // a base that a "+" may follow
        private static final int PLUS = 7; // "+"
        private static final int LESS = 8; // "-"
        private static final int LESS_HALF = 9; // "-" and "H"
        private static final int LESS_COUNT = 10; // "-" and a count
        private static final int END = 11; // what nothing may follow
        private static final int REFUSED = -1;

        private boolean knowsHalf;
        private boolean knowsLess;
        private boolean knowsGreat;
        private int state;
        private boolean isBehindGreat;
        private boolean isHalved;
        private boolean isLess;
        private int count;
        private int great;
        private int base;
        private int unit;

        void listen(boolean half, boolean less, boolean greatWord) {
            knowsHalf = half;
            knowsLess = less;
            knowsGreat = greatWord;
            state = START;
            isBehindGreat = false;
            isHalved = false;
            isLess = false;
            count = 1;
            great = 0;
            base = 0;
            unit = 0;
        }

        /** What is understood of the first characters, as many as the attention, 0 if nothing. */
        int hear(long said, int attention) {
            int length = Said.length(said);
            for (int i = 0; i < length && i < attention; i++) {
                if (!take(Said.character(said, length - 1 - i))) {
                    return 0;
                }
            }
            return isComplete() ? number() : 0;
        }

        /** False if no spoken number goes on with this character. */
        boolean take(int character) {
            int next = following(character);
            if (next == REFUSED) {
                return false;
            }
            keep(character);
            state = next;
            return true;
        }

        boolean isComplete() {
            return state == UNIT || state == ONE || state == GREAT || state == BASE
                    || state == END;
        }

        private int number() {
            return great + base + (isLess && knowsLess ? -unit : unit);
        }

        private int following(int character) {
            switch (state) {
                case START:
                    return afterStart(character);
                case HALF:
                    return isCountUnit(character) ? COUNT : REFUSED;
                case COUNT:
                    return afterCount(character);
                case UNIT:
                    return character == '-' ? LESS : afterCount(character);
                case ONE:
                    return character == '-' ? LESS : REFUSED;
                case GREAT:
                    return character == '&' ? START : REFUSED;
                case BASE:
                    return character == '+' ? PLUS : REFUSED;
                case PLUS:
                    return isUnit(character) ? END : REFUSED;
                case LESS:
                    return afterLess(character);
                case LESS_HALF:
                    return isCountUnit(character) ? LESS_COUNT : REFUSED;
                case LESS_COUNT:
                    return character == 'S' ? END : REFUSED;
                default:
                    return REFUSED;
            }
        }

        private int afterStart(int character) {
            switch (character) {
                case 'H':
                    return HALF;
                case 'S':
                    return BASE;
                case 'G':
                    return isBehindGreat ? REFUSED : GREAT;
                case 'a':
                    return ONE;
                default:
                    return character >= 'b' && character <= 's' ? UNIT : REFUSED;
            }
        }

        private int afterCount(int character) {
            if (character == 'S') {
                return BASE;
            }
            return character == 'G' && !isBehindGreat ? GREAT : REFUSED;
        }

        private int afterLess(int character) {
            switch (character) {
                case 'H':
                    return LESS_HALF;
                case 'S':
                    return END;
                default:
                    return character >= 'b' && character <= 's' ? LESS_COUNT : REFUSED;
            }
        }

        private static boolean isUnit(int character) {
            return character >= 'a' && character <= 's';
        }

        private static boolean isCountUnit(int character) {
            return character >= 'b' && character <= 's';
        }

        private void keep(int character) {
            switch (character) {
                case 'H':
                    isHalved = true;
                    break;
                case '-':
                    isLess = true;
                    break;
                case '+':
                    break;
                case '&':
                    isBehindGreat = true;
                    isHalved = false;
                    count = 1;
                    break;
                case 'S':
                    takeUnitAsCount();
                    base = scores();
                    break;
                case 'G':
                    takeUnitAsCount();
                    great = knowsGreat ? 20 * scores() : scores();
                    break;
                default:
                    keepUnit(character - 'a' + 1);
                    break;
            }
        }

        private void keepUnit(int value) {
            if (state == START || state == PLUS) {
                unit = value;
            } else {
                count = value;
            }
        }

        private void takeUnitAsCount() {
            if (state == UNIT) {
                count = unit;
                unit = 0;
            }
        }

        private int scores() {
            return 20 * count - (isHalved && knowsHalf ? 10 : 0);
        }
    }

    /** All that an undo brings back. */
    private static final class State {
        private static final int LOG_ROOM = 10;

        final int[][] hearers = new int[HEARERS][HEARER_COLUMNS];
        // A ring of the latest tellings, so that the oldest row is written over.
        private final int[][] lines = new int[LOG_ROOM][LOG_COLUMNS];
        private int newest = 0;
        int kept = 0;
        int patience = 2;

        State() {
            for (int hearer = 0; hearer < HEARERS; hearer++) {
                for (int word = 0; word < WORDS; word++) {
                    hearers[hearer][KNOWN + word] = 1;
                }
                hearers[hearer][ATTENTION] = TOP_ATTENTION;
            }
        }

        void copyFrom(State other) {
            for (int i = 0; i < HEARERS; i++) {
                System.arraycopy(other.hearers[i], 0, hearers[i], 0, HEARER_COLUMNS);
            }
            for (int i = 0; i < LOG_ROOM; i++) {
                System.arraycopy(other.lines[i], 0, lines[i], 0, LOG_COLUMNS);
            }
            newest = other.newest;
            kept = other.kept;
            patience = other.patience;
        }

        int[] nextLine() {
            newest = newest >= 0 && newest < LOG_ROOM - 1 ? newest + 1 : 0;
            kept = Math.min(kept + 1, LOG_ROOM);
            return lines[newest];
        }

        int told(int ago, int what) {
            int at = newest - ago;
            if (at < 0) {
                at += LOG_ROOM;
            }
            return at >= 0 && at < LOG_ROOM ? lines[at][what] : NONE;
        }

        /** The sum of some columns, which stand side by side, over all hearers. */
        int total(int column, int columns) {
            int sum = 0;
            for (int hearer = 0; hearer < HEARERS; hearer++) {
                for (int i = column; i < column + columns && i < HEARER_COLUMNS; i++) {
                    sum += hearers[hearer][i];
                }
            }
            return sum;
        }
    }

    /** The latest states, in a ring that writes over the oldest one. */
    private static final class History {
        private static final int ROOM = 4;

        private final State[] states = new State[ROOM];
        private int free = 0;
        private int held = 0;

        History() {
            for (int i = 0; i < ROOM; i++) {
                states[i] = new State();
            }
        }

        void record(State state) {
            if (free < 0 || free >= ROOM) {
                return;
            }
            states[free].copyFrom(state);
            free = free == ROOM - 1 ? 0 : free + 1;
            held = Math.min(held + 1, ROOM);
        }

        /** The number of states that are left, NONE if there was none to restore. */
        int restore(State state) {
            if (held <= 0) {
                return NONE;
            }
            int latest = free >= 1 && free < ROOM ? free - 1 : ROOM - 1;
            state.copyFrom(states[latest]);
            free = latest;
            held--;
            return held;
        }
    }
}
