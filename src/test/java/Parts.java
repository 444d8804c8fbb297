import java.util.ArrayList;
import java.util.HashSet;
import java.util.List;
import java.util.Set;

/** All parts that the document allows, each written out, and all their beginnings. */
final class Parts {
    private static final List<String> ALL = all();
    private static final Set<String> WHOLE = new HashSet<>(ALL);
    private static final Set<String> BEGUN = begun();

    private Parts() {
    }

    private static List<String> all() {
        List<String> parts = new ArrayList<>();
        for (int first = 0; first < 40; first++) {
            for (int last = first; last < 40; last++) {
                String pages = last == first ? String.valueOf(first) : first + "-" + last;
                parts.add(pages);
                for (int hint = 0; hint < 4; hint++) {
                    parts.add(pages + "h" + hint);
                }
            }
        }
        return parts;
    }

    private static Set<String> begun() {
        Set<String> begun = new HashSet<>();
        for (String part : WHOLE) {
            for (int end = 0; end <= part.length(); end++) {
                begun.add(part.substring(0, end));
            }
        }
        return begun;
    }

    static int number() {
        return ALL.size();
    }

    static String part(int number) {
        return ALL.get(number);
    }

    static boolean areWrites(String text) {
        for (String part : text.split(";", -1)) {
            if (!WHOLE.contains(part)) {
                return false;
            }
        }
        return true;
    }

    static boolean mayGoOn(String text) {
        int end = text.lastIndexOf(';');
        return (end == -1 || areWrites(text.substring(0, end))) && BEGUN.contains(text.substring(end + 1));
    }

    static int firstError(String text) {
        for (int end = 1; end <= text.length(); end++) {
            if (!mayGoOn(text.substring(0, end))) {
                return end - 1;
            }
        }
        return text.length();
    }
}
