import java.util.ArrayList;
import java.util.Comparator;
import java.util.HashMap;
import java.util.HashSet;
import java.util.List;
import java.util.Map;
import java.util.Set;

/** All spoken numbers, written out from the grammar, and what they mean: slow, and of another make. */
final class Oracle {
    static final Map<Integer, List<String>> WAYS = new HashMap<>();
    static final Map<String, Integer> MEANINGS = new HashMap<>();
    private static final Set<String> BEGINNINGS = new HashSet<>();

    static {
        List<String> smalls = smalls();
        List<String> greats = based("G");
        for (String small : smalls) {
            put(small);
        }
        for (String great : greats) {
            put(great);
            for (String small : smalls) {
                put(great + "&" + small);
            }
        }
        Comparator<String> byLength = Comparator.comparingInt(String::length);
        for (List<String> ways : WAYS.values()) {
            ways.sort(byLength.thenComparing(Comparator.naturalOrder()));
        }
    }

    private Oracle() {
    }

    private static List<String> based(String word) {
        List<String> all = new ArrayList<>();
        all.add(word);
        for (char unit = 'b'; unit <= 's'; unit++) {
            all.add(unit + word);
            all.add("H" + unit + word);
        }
        return all;
    }

    private static List<String> smalls() {
        List<String> all = new ArrayList<>(based("S"));
        for (char unit = 'a'; unit <= 's'; unit++) {
            all.add("" + unit);
            for (String base : based("S")) {
                all.add(base + "+" + unit);
                all.add(unit + "-" + base);
            }
        }
        return all;
    }

    private static void put(String text) {
        int meaning = understood(text, 99, true, true, true);
        MEANINGS.put(text, meaning);
        WAYS.computeIfAbsent(meaning, n -> new ArrayList<>()).add(text);
        for (int i = 0; i <= text.length(); i++) {
            BEGINNINGS.add(text.substring(0, i));
        }
    }

    /** The fault of a text, -5 if there is none. */
    static int fault(String text) {
        for (int i = 0; i < text.length(); i++) {
            if (!BEGINNINGS.contains(text.substring(0, i + 1))) {
                return i;
            }
        }
        return MEANINGS.containsKey(text) ? -5 : text.length();
    }

    static int place(String text) {
        return WAYS.get(MEANINGS.get(text)).indexOf(text);
    }

    static int styled(int number, int style) {
        List<String> ways = WAYS.get(number);
        for (String way : ways) {
            boolean half = way.contains("H");
            boolean less = way.contains("-");
            if (style == 1 && half || style == 2 && less || style == 3 && !half && !less) {
                return ways.indexOf(way);
            }
        }
        return 0;
    }

    /** What is understood of a spoken number, 0 if nothing. */
    static int heard(String text, int attention, boolean half, boolean less, boolean great) {
        String heard = text.substring(0, Math.min(attention, text.length()));
        return MEANINGS.containsKey(heard) ? understood(heard, attention, half, less, great) : 0;
    }

    private static int understood(String text, int attention, boolean half, boolean less, boolean great) {
        String words = text;
        if (!half) {
            words = words.replace("H", "");
        }
        if (!great) {
            words = words.replace("G", "S");
        }
        int sum = 0;
        for (String part : words.split("&")) {
            int minus = part.indexOf('-');
            if (minus > 0) {
                int unit = part.charAt(0) - 'a' + 1;
                sum += base(part.substring(minus + 1)) + (less ? -unit : unit);
            } else {
                for (String term : part.split("\\+")) {
                    sum += term.matches("[a-s]") ? term.charAt(0) - 'a' + 1 : base(term);
                }
            }
        }
        return sum;
    }

    private static int base(String base) {
        int one = base.endsWith("G") ? 400 : 20;
        String count = base.substring(0, base.length() - 1);
        if (count.isEmpty()) {
            return one;
        }
        int times = count.charAt(count.length() - 1) - 'a' + 1;
        return one * times - (count.startsWith("H") ? one / 2 : 0);
    }
}
