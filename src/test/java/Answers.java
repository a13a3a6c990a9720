/** All that an object tells without being changed: what must be the same before and after a call that is refused. */
final class Answers {
    private Answers() {
    }

    /** Some 90 calls for a text of six letters. */
    static String of(TextEnds ends) {
        StringBuilder all = new StringBuilder();
        for (int what = -1; what <= 6; what++) {
            all.append(" count ").append(ends.count(what));
        }
        int letters = ends.count(0);
        for (int i = -1; i <= letters; i++) {
            all.append(" sa ").append(ends.sa(i)).append(" lcp ").append(ends.lcp(i));
            all.append(" rank ").append(ends.rank(i)).append(" hit ").append(ends.hit(i));
            for (int j = 0; j < letters; j++) {
                all.append(" common ").append(ends.common(i, j));
            }
        }
        all.append(" repeated ").append(ends.repeated()).append(" at ").append(ends.repeatedAt());
        return all.append(" different ").append(ends.different()).toString();
    }

    /** Every call on the order, and hit(), answers -1. */
    static void noneDue(String when, TextEnds ends) {
        Check.due(when + ": built", ends.count(2), 0);
        Check.due(when + ": sa(0)", ends.sa(0), -1);
        Check.due(when + ": lcp(1)", ends.lcp(1), -1);
        Check.due(when + ": rank(0)", ends.rank(0), -1);
        Check.due(when + ": common(0, 0)", ends.common(0, 0), -1);
        Check.due(when + ": hit(0)", ends.hit(0), -1);
        Check.due(when + ": search()", ends.search(), -1);
        Check.due(when + ": hit(0) behind search()", ends.hit(0), -1);
        Check.due(when + ": repeated()", ends.repeated(), -1);
        Check.due(when + ": repeatedAt()", ends.repeatedAt(), -1);
        Check.due(when + ": different()", ends.different(), -1);
    }

    /** The text has these letters and no others; builds it, and leaves them in the pattern, searched. */
    static void lettersDue(String when, TextEnds ends, int... letters) {
        Check.due(when + ": letters", ends.count(0), letters.length);
        ends.build();
        ends.patClear();
        for (int letter : letters) {
            ends.patFeed(letter);
        }
        Check.due(when + ": letters of the pattern", ends.count(1), letters.length);
        int found = ends.search();
        if (letters.length > 0) {
            Check.due(when + ": the text as a pattern", found, 1);
            Check.due(when + ": its place", ends.hit(0), 0);
        }
    }
}
