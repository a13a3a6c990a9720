/**
 * All ends of a text in their order. The order is made by induced sorting, in steps as many as the
 * text is long; every row is made once, with the object, and used again by each build().
 */
public final class TextEnds {
    public static final int NONE = -1;

    private static final int MOST_TEXT = 1000;
    private static final int MOST_SIGMA = 256;
    private static final int MOST_PATTERN = 64;
    private static final int MOST_AT_ONCE = 16;

    private final int sigma;
    private final EndSorter sorter;
    private final int[] text;
    private final int[] order;
    private final int[] pattern;
    private final int[] standing;
    private final int[] alike;
    private int length;
    private int patternLength;
    private boolean built;
    private int firstHit;
    private int hits;

    public TextEnds(int maxText, int sigma, int maxPattern) {
        int room = nearest(maxText, MOST_TEXT);
        this.sigma = nearest(sigma, MOST_SIGMA);
        sorter = new EndSorter(room, this.sigma);
        text = sorter.text;
        order = sorter.order;
        pattern = new int[nearest(maxPattern, MOST_PATTERN)];
        standing = new int[room];
        alike = new int[room];
    }

    public boolean feed(int letter) {
        if (!isLetter(letter) || length >= text.length) {
            return false;
        }
        text[length] = letter;
        length++;
        built = false;
        forgetHits();
        return true;
    }

    public int feedAll(int a, int b, int c, int d, int n) {
        if (n < 1 || n > MOST_AT_ONCE) {
            return 0;
        }
        int came = 0;
        while (came < n && feed(packedLetter(a, b, c, d, came))) {
            came++;
        }
        return came;
    }

    public int build() {
        if (!built) {
            sorter.sortEnds(length);
            noteStanding();
            measureNeighbours();
            built = true;
        }
        return length;
    }

    public int sa(int i) {
        return isEnd(i) ? order[i] : NONE;
    }

    public int lcp(int i) {
        return i >= 1 && isEnd(i) ? alike[i] : NONE;
    }

    public int rank(int place) {
        return isEnd(place) ? standing[place] : NONE;
    }

    public int common(int place, int other) {
        return isEnd(place) && isEnd(other) ? alikeFrom(place, other, 0) : NONE;
    }

    public boolean patFeed(int letter) {
        if (!isLetter(letter) || patternLength >= pattern.length) {
            return false;
        }
        pattern[patternLength] = letter;
        patternLength++;
        forgetHits();
        return true;
    }

    public void patClear() {
        patternLength = 0;
        forgetHits();
    }

    public int search() {
        if (!built) {
            return NONE;
        }
        firstHit = firstEndFrom(0);
        hits = firstEndFrom(1) - firstHit;
        return hits;
    }

    public int hit(int k) {
        return k >= 0 && k < hits ? at(order, firstHit + k) : NONE;
    }

    public int repeated() {
        return built ? longestAlike() : NONE;
    }

    public int repeatedAt() {
        int longest = built ? longestAlike() : 0;
        return longest > 0 ? leastPlaceOf(longest) : NONE;
    }

    public int different() {
        if (!built) {
            return NONE;
        }
        // Each end begins with as many parts as it has letters; those it has in common with the
        // end before it have been counted there.
        int parts = 0;
        for (int i = 0; i < length; i++) {
            parts += length - order[i] - alike[i];
        }
        return parts;
    }

    public int count(int what) {
        switch (what) {
            case 0:
                return length;
            case 1:
                return patternLength;
            case 2:
                return built ? 1 : 0;
            case 3:
                return text.length;
            case 4:
                return sigma;
            case 5:
                return pattern.length;
            default:
                return NONE;
        }
    }

    public void clear() {
        length = 0;
        built = false;
        patClear();
    }

    private static int nearest(int asked, int most) {
        return Math.max(1, Math.min(asked, most));
    }

    // An index that comes out of another row goes through at() and put(): whatever it is, the
    // machine has nothing to throw.
    private static int at(int[] row, int i) {
        return i >= 0 && i < row.length ? row[i] : NONE;
    }

    private static void put(int[] row, int i, int value) {
        if (i >= 0 && i < row.length) {
            row[i] = value;
        }
    }

    private static int packedLetter(int a, int b, int c, int d, int i) {
        int four = i < 4 ? a : i < 8 ? b : i < 12 ? c : d;
        return (four >>> (24 - 8 * (i & 3))) & 255;
    }

    private boolean isLetter(int letter) {
        return letter >= 0 && letter < sigma;
    }

    // Places in the text and places in the order are the same numbers, so one test serves both.
    private boolean isEnd(int place) {
        return built && place >= 0 && place < length;
    }

    private void forgetHits() {
        hits = 0;
    }

    private void noteStanding() {
        for (int i = 0; i < length; i++) {
            put(standing, order[i], i);
        }
    }

    // Going by places keeps the steps few: the end one letter shorter has at most one letter less
    // in common with the end before it.
    private void measureNeighbours() {
        int known = 0;
        for (int place = 0; place < length; place++) {
            int where = standing[place];
            known = where > 0 ? alikeFrom(at(order, where - 1), place, known) : 0;
            put(alike, where, known);
            known = Math.max(0, known - 1);
        }
    }

    private int alikeFrom(int place, int other, int known) {
        int most = length - Math.max(place, other);
        int same = known;
        while (same < most && at(text, place + same) == at(text, other + same)) {
            same++;
        }
        return same;
    }

    // The first place of the order whose end compares with the pattern as 'least' or more.
    private int firstEndFrom(int least) {
        int low = 0;
        int high = length;
        while (low < high) {
            int middle = (low + high) >>> 1;
            if (compareWithPattern(at(order, middle)) < least) {
                low = middle + 1;
            } else {
                high = middle;
            }
        }
        return low;
    }

    // 0 for every end that begins with the pattern, however long it is.
    private int compareWithPattern(int place) {
        for (int i = 0; i < patternLength; i++) {
            if (place + i >= length) {
                return -1;
            }
            int unlike = at(text, place + i) - pattern[i];
            if (unlike != 0) {
                return unlike;
            }
        }
        return 0;
    }

    private int longestAlike() {
        int longest = 0;
        for (int i = 1; i < length; i++) {
            longest = Math.max(longest, alike[i]);
        }
        return longest;
    }

    // All ends that begin with the same longest part stand side by side in the order, and the first
    // such group is that of the part which is first in the order.
    private int leastPlaceOf(int longest) {
        int i = 1;
        while (i < length && alike[i] != longest) {
            i++;
        }
        int least = at(order, i - 1);
        while (i < length && alike[i] == longest) {
            least = Math.min(least, order[i]);
            i++;
        }
        return least;
    }

    /** A text to be sorted: the object's own, or the valleys of the level above as letters. */
    private static final class Level {
        final int[] letters;
        int length;
        int sigma;

        Level(int room) {
            letters = new int[Math.max(0, room)];
        }

        void hold(int length, int sigma) {
            this.length = Math.min(length, letters.length);
            this.sigma = sigma;
        }
    }

    /**
     * Sorts the ends of a text by induction. An end is rising if it comes before the end that
     * begins one place later, else falling; a valley is a rising end right behind a falling one.
     * Once the valleys are in order, one pass to and fro orders the rest. The valleys, at most
     * half as many, are put in order as the ends of a shorter text, a level deeper.
     *
     * What the levels share (all rows but the letters) is made anew on entering a level, so that
     * they need only one set of rows.
     */
    private static final class EndSorter {
        final int[] text;
        final int[] order;
        private final Level[] levels;
        private final boolean[] rising;
        private final int[] valleys;
        private final int[] valleyNumber;
        private final int[] sortedValleys;
        private final int[] fallingFrom;
        private final int[] risingFrom;
        private final int[] nextSlot;
        private final int textSigma;
        private int[] letters;
        private int length;
        private int sigma;
        private int valleyCount;

        EndSorter(int room, int sigma) {
            levels = new Level[levelsFor(room)];
            for (int i = 0; i < levels.length; i++) {
                levels[i] = new Level(room >> i);
            }
            int bucketRoom = Math.max(sigma, room / 2);
            textSigma = sigma;
            text = levels[0].letters;
            letters = text;
            order = new int[room];
            rising = new boolean[room];
            valleyNumber = new int[room];
            valleys = new int[room / 2];
            sortedValleys = new int[room / 2];
            fallingFrom = new int[bucketRoom + 1];
            risingFrom = new int[bucketRoom];
            nextSlot = new int[bucketRoom];
        }

        void sortEnds(int textLength) {
            if (textLength < 1) {
                return;
            }
            levels[0].hold(textLength, textSigma);
            int deepest = goDown();
            induceFrom(sortedValleys);
            for (int i = deepest - 1; i >= 0; i--) {
                enter(levels[i]);
                takeOrderFromBelow();
                induceFrom(sortedValleys);
            }
        }

        // Of two places side by side at most one is a valley, so each level needs half the room of
        // the one above; a single valley is in order as it is and needs no level.
        private static int levelsFor(int room) {
            int count = 1;
            for (int valleysAtMost = room / 2; valleysAtMost > 1; valleysAtMost /= 2) {
                count++;
            }
            return count;
        }

        // From valleys in any order the induction sorts them by their letters up to the next
        // valley: enough to name them, and all there is to it if no two are alike. Answers the
        // level at which that was so.
        private int goDown() {
            int deepest = 0;
            boolean inOrder = false;
            for (int i = 0; i < levels.length && !inOrder; i++) {
                enter(levels[i]);
                induceFrom(valleys);
                gatherValleys();
                inOrder = i + 1 == levels.length || areAllNamed(levels[i + 1]);
                deepest = i;
            }
            return deepest;
        }

        // Whether each valley got a name of its own; if not, the level below has them to sort.
        private boolean areAllNamed(Level below) {
            int names = nameValleys(below.letters);
            below.hold(valleyCount, names);
            return names == valleyCount;
        }

        private void enter(Level level) {
            letters = level.letters;
            length = level.length;
            sigma = level.sigma;
            markRising();
            findValleys();
            findBuckets();
        }

        private void markRising() {
            for (int place = length - 1; place >= 0; place--) {
                int letter = letterAt(place);
                int later = letterAt(place + 1);
                rising[place] = letter == later ? isRising(place + 1) : letter < later;
            }
        }

        private void findValleys() {
            valleyCount = 0;
            for (int place = 0; place < length; place++) {
                boolean valley = isRising(place) && isFalling(place - 1);
                valleyNumber[place] = valley ? valleyCount : NONE;
                if (valley) {
                    put(valleys, valleyCount, place);
                    valleyCount++;
                }
            }
        }

        // Ends with the same first letter stand side by side, the falling ones first.
        private void findBuckets() {
            for (int letter = 0; letter < sigma; letter++) {
                fallingFrom[letter] = 0;
                risingFrom[letter] = 0;
            }
            for (int place = 0; place < length; place++) {
                int[] counts = rising[place] ? risingFrom : fallingFrom;
                int letter = letterAt(place);
                put(counts, letter, at(counts, letter) + 1);
            }
            int slot = 0;
            for (int letter = 0; letter < sigma; letter++) {
                int afterFalling = slot + fallingFrom[letter];
                int afterRising = afterFalling + risingFrom[letter];
                fallingFrom[letter] = slot;
                risingFrom[letter] = afterFalling;
                slot = afterRising;
            }
            fallingFrom[sigma] = slot;
        }

        private void induceFrom(int[] seeds) {
            for (int slot = 0; slot < length; slot++) {
                order[slot] = NONE;
            }
            startBuckets(risingFrom, 0);
            for (int i = 0; i < valleyCount; i++) {
                placeFront(at(seeds, i));
            }
            induceFalling();
            induceRising();
        }

        private void induceFalling() {
            startBuckets(fallingFrom, 0);
            placeFront(length - 1);
            for (int slot = 0; slot < length; slot++) {
                int before = order[slot] - 1;
                if (isFalling(before)) {
                    placeFront(before);
                }
            }
        }

        private void induceRising() {
            startBuckets(fallingFrom, 1);
            for (int slot = length - 1; slot >= 0; slot--) {
                int before = order[slot] - 1;
                if (isRising(before)) {
                    placeBack(before);
                }
            }
        }

        private void startBuckets(int[] from, int lettersOn) {
            for (int letter = 0; letter < sigma; letter++) {
                nextSlot[letter] = at(from, letter + lettersOn);
            }
        }

        private void placeFront(int place) {
            int letter = letterAt(place);
            int slot = at(nextSlot, letter);
            put(order, slot, place);
            put(nextSlot, letter, slot + 1);
        }

        private void placeBack(int place) {
            int letter = letterAt(place);
            int slot = at(nextSlot, letter) - 1;
            put(order, slot, place);
            put(nextSlot, letter, slot);
        }

        private void gatherValleys() {
            int gathered = 0;
            for (int slot = 0; slot < length; slot++) {
                int place = order[slot];
                if (at(valleyNumber, place) != NONE) {
                    put(sortedValleys, gathered, place);
                    gathered++;
                }
            }
        }

        // Alike valley parts get the same name, so that the names, in the order of the text, are a
        // text whose ends stand in the order of the valleys. Answers how many names there are.
        private int nameValleys(int[] names) {
            int count = 0;
            int former = NONE;
            for (int i = 0; i < valleyCount; i++) {
                int place = at(sortedValleys, i);
                if (i == 0 || !areAlike(former, place)) {
                    count++;
                }
                put(names, at(valleyNumber, place), count - 1);
                former = place;
            }
            return count;
        }

        private boolean areAlike(int valley, int other) {
            int steps = stepsToNext(valley);
            if (steps != stepsToNext(other)) {
                return false;
            }
            for (int i = 0; i <= steps; i++) {
                if (letterAt(valley + i) != letterAt(other + i)) {
                    return false;
                }
            }
            return true;
        }

        private int stepsToNext(int valley) {
            int following = at(valleyNumber, valley) + 1;
            return (following < valleyCount ? at(valleys, following) : length) - valley;
        }

        private void takeOrderFromBelow() {
            for (int i = 0; i < valleyCount; i++) {
                put(sortedValleys, i, at(valleys, at(order, i)));
            }
        }

        // Behind the last letter stands NONE, which is less than every letter.
        private int letterAt(int place) {
            return place >= 0 && place < length ? letters[place] : NONE;
        }

        private boolean isRising(int place) {
            return place >= 0 && place < length && rising[place];
        }

        private boolean isFalling(int place) {
            return place >= 0 && place < length && !rising[place];
        }
    }
}
