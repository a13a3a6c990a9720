/** Objects with words of small letters as text and pattern. */
final class Words {
    private Words() {
    }

    static TextEnds fed(String word) {
        TextEnds ends = new TextEnds(1000, 26, 64);
        feed(ends, word);
        return ends;
    }

    static TextEnds built(String word) {
        TextEnds ends = fed(word);
        Check.due("build of " + word, ends.build(), word.length());
        return ends;
    }

    static TextEnds searched(String word, String pattern) {
        TextEnds ends = built(word);
        patFeed(ends, pattern);
        ends.search();
        return ends;
    }

    static int found(String word, String pattern) {
        TextEnds ends = built(word);
        patFeed(ends, pattern);
        return ends.search();
    }

    static void feed(TextEnds ends, String word) {
        for (int i = 0; i < word.length(); i++) {
            Check.due("feed of " + word, ends.feed(word.charAt(i) - 'a'), true);
        }
    }

    static void patFeed(TextEnds ends, String word) {
        for (int i = 0; i < word.length(); i++) {
            Check.due("patFeed of " + word, ends.patFeed(word.charAt(i) - 'a'), true);
        }
    }
}
