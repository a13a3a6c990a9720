import java.util.ArrayList;
import java.util.HashSet;
import java.util.List;
import java.util.Set;

/** The document's words in their plainest form, without regard to speed: what TextEnds is held against. */
final class PlainTextEnds {
    private final int room;
    private final int sigma;
    private final int patternRoom;
    private final StringBuilder text = new StringBuilder();
    private final StringBuilder pattern = new StringBuilder();
    private final List<Integer> order = new ArrayList<>();
    private boolean built = false;
    private List<Integer> found = new ArrayList<>();

    PlainTextEnds(int maxText, int sigma, int maxPattern) {
        room = Math.min(Math.max(maxText, 1), 1000);
        this.sigma = Math.min(Math.max(sigma, 1), 256);
        patternRoom = Math.min(Math.max(maxPattern, 1), 64);
    }

    boolean feed(int letter) {
        if (letter < 0 || letter >= sigma || text.length() == room) {
            return false;
        }
        text.append((char) letter);
        built = false;
        found = new ArrayList<>();
        return true;
    }

    int feedAll(int a, int b, int c, int d, int n) {
        if (n < 1 || n > 16) {
            return 0;
        }
        int[] numbers = {a, b, c, d};
        int came = 0;
        for (int i = 0; i < n; i++) {
            int[] bytes = {
                numbers[i / 4] >> 24 & 255, numbers[i / 4] >> 16 & 255,
                numbers[i / 4] >> 8 & 255, numbers[i / 4] & 255};
            if (!feed(bytes[i % 4])) {
                return came;
            }
            came++;
        }
        return came;
    }

    int build() {
        order.clear();
        for (int i = 0; i < text.length(); i++) {
            order.add(i);
        }
        // String's own order is the document's: the first unlike letter, else the shorter one first.
        String whole = text.toString();
        order.sort((x, y) -> whole.substring(x).compareTo(whole.substring(y)));
        built = true;
        return text.length();
    }

    int sa(int i) {
        return isEnd(i) ? order.get(i) : -1;
    }

    int lcp(int i) {
        return isEnd(i) && i > 0 ? common(order.get(i - 1), order.get(i)) : -1;
    }

    int rank(int place) {
        return isEnd(place) ? order.indexOf(place) : -1;
    }

    int common(int place, int other) {
        if (!isEnd(place) || !isEnd(other)) {
            return -1;
        }
        int same = 0;
        while (place + same < text.length() && other + same < text.length()
                && text.charAt(place + same) == text.charAt(other + same)) {
            same++;
        }
        return same;
    }

    boolean patFeed(int letter) {
        if (letter < 0 || letter >= sigma || pattern.length() == patternRoom) {
            return false;
        }
        pattern.append((char) letter);
        found = new ArrayList<>();
        return true;
    }

    void patClear() {
        pattern.setLength(0);
        found = new ArrayList<>();
    }

    int search() {
        if (!built) {
            return -1;
        }
        found = new ArrayList<>();
        for (int place : order) {
            if (text.toString().startsWith(pattern.toString(), place)) {
                found.add(place);
            }
        }
        return found.size();
    }

    int hit(int k) {
        return k >= 0 && k < found.size() ? found.get(k) : -1;
    }

    int repeated() {
        if (!built) {
            return -1;
        }
        int longest = 0;
        for (int letters : lettersThatComeAgain()) {
            longest = Math.max(longest, letters);
        }
        return longest;
    }

    int repeatedAt() {
        int longest = repeated();
        if (longest < 1) {
            return -1;
        }
        String first = null;
        for (int place = 0; place + longest <= text.length(); place++) {
            String part = text.substring(place, place + longest);
            boolean again = text.indexOf(part) != text.lastIndexOf(part);
            if (again && (first == null || part.compareTo(first) < 0)) {
                first = part;
            }
        }
        return text.indexOf(first);
    }

    int different() {
        return built ? differentParts() : -1;
    }

    int count(int what) {
        int[] answers = {text.length(), pattern.length(), built ? 1 : 0, room, sigma, patternRoom};
        return what >= 0 && what < answers.length ? answers[what] : -1;
    }

    void clear() {
        text.setLength(0);
        pattern.setLength(0);
        built = false;
        found = new ArrayList<>();
    }

    private boolean isEnd(int place) {
        return built && place >= 0 && place < text.length();
    }

    private int differentParts() {
        if (text.length() > 60) {
            return differentPartsOfALongText();
        }
        Set<String> parts = new HashSet<>();
        for (int from = 0; from < text.length(); from++) {
            for (int to = from + 1; to <= text.length(); to++) {
                parts.add(text.substring(from, to));
            }
        }
        return parts.size();
    }

    // All parts of a long text are too many to keep: each is counted at the last place where it stands.
    private int differentPartsOfALongText() {
        int[] again = lettersThatComeAgain();
        int parts = 0;
        for (int place = 0; place < again.length; place++) {
            parts += text.length() - place - again[place];
        }
        return parts;
    }

    // For each place the most letters from there on that stand at a later place too; without the
    // order, so that an error in it does not hide itself.
    private int[] lettersThatComeAgain() {
        int[] again = new int[text.length()];
        int[] alike = new int[text.length() + 1];
        for (int place = text.length() - 1; place >= 0; place--) {
            for (int later = place + 1; later < text.length(); later++) {
                alike[later] = text.charAt(place) == text.charAt(later) ? alike[later + 1] + 1 : 0;
                again[place] = Math.max(again[place], alike[later]);
            }
        }
        return again;
    }
}
