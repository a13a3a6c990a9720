/** A method for each sentence on an edge of the pattern: promises 9 to 12. */
public final class EdgesOfPatternTest {
    private static final int MOST_LETTERS = 1000;
    private static final int MOST_PATTERN = 64;

    public static void main(String[] args) {
        patFeedOfNone();
        patFeedWithoutRoom();
        patFeedLeavesTheText();
        patClearOfEachLength();
        patClearLeavesTheText();
        searchOfTheEmptyPattern();
        searchOfEdges();
        searchOfAFullPattern();
        searchNotBuilt();
        hitIfThereIsNone();
        hitBeforeAnySearch();
        hitOfTheLatestSearch();
        hitOfMany();
        hitWhenTheTextChanged();
        hitWhenThePatternChanged();
        hitBehindPatClear();
        hitBehindARefusedLetter();
        hitBehindCallsThatChangeNothing();
        Check.end();
    }

    private static TextEnds largest(int letter) {
        TextEnds ends = new TextEnds(MOST_LETTERS, 256, MOST_PATTERN);
        Packed.feed(ends, Numbers.alike(letter, MOST_LETTERS));
        ends.build();
        return ends;
    }

    private static void patFeedOfNone() {
        Check.sentence("9: false if it is none");
        for (int letter : Numbers.outside(0, 25)) {
            TextEnds ends = Words.searched("abcab", "ab");
            String before = Answers.of(ends);
            Check.due("patFeed(" + letter + ")", ends.patFeed(letter), false);
            Check.due("all behind patFeed(" + letter + ")", Answers.of(ends), before);
            Check.due("search behind patFeed(" + letter + ")", ends.search(), 2);
        }
        TextEnds ends = Words.built("az");
        Check.due("the last letter", ends.patFeed(25), true);
        Check.due("search of it", ends.search(), 1);
        ends.patClear();
        Check.due("the first letter", ends.patFeed(0), true);
        Check.due("search of it", ends.search(), 1);
    }

    private static void patFeedWithoutRoom() {
        Check.sentence("9: or there is no room");
        for (int room : new int[] {1, 2, 63, MOST_PATTERN}) {
            TextEnds ends = new TextEnds(MOST_LETTERS, 2, room);
            Packed.feed(ends, Numbers.alike(1, 70));
            ends.build();
            for (int i = 0; i < room; i++) {
                Check.due("letter " + i + " of " + room, ends.patFeed(1), true);
                Check.due("letters of the pattern", ends.count(1), i + 1);
            }
            Check.due("search of " + room, ends.search(), 71 - room);
            Check.due("one more than " + room, ends.patFeed(0), false);
            Check.due("one more than " + room + " again", ends.patFeed(1), false);
            Check.due("letters of the pattern", ends.count(1), room);
            Check.due("hit as before", ends.hit(0), 70 - room);
            Check.due("search as before", ends.search(), 71 - room);
            ends.patClear();
            Check.due("room again", ends.patFeed(0), true);
        }
    }

    private static void patFeedLeavesTheText() {
        Check.sentence("9: A letter comes to the pattern");
        TextEnds ends = Words.built("abcab");
        String order = "sa " + ends.sa(0) + ends.sa(1) + ends.sa(2) + ends.sa(3) + ends.sa(4);
        Check.due("patFeed", ends.patFeed(25), true);
        Check.due("letters of the text", ends.count(0), 5);
        Check.due("still built", ends.count(2), 1);
        Check.due("order", "sa " + ends.sa(0) + ends.sa(1) + ends.sa(2) + ends.sa(3) + ends.sa(4), order);
        TextEnds full = new TextEnds(1, 1, 1);
        full.feed(0);
        Check.due("patFeed beside a full text", full.patFeed(0), true);
        Check.due("feed beside a full pattern", new TextEnds(1, 1, 1).feed(0), true);
    }

    private static void patClearOfEachLength() {
        Check.sentence("10: The pattern is empty");
        for (int length : new int[] {0, 1, 63, MOST_PATTERN}) {
            TextEnds ends = Words.built("abcab");
            for (int i = 0; i < length; i++) {
                ends.patFeed(25);
            }
            Check.due("letters of the pattern", ends.count(1), length);
            ends.patClear();
            Check.due("no letters of the pattern", ends.count(1), 0);
            Check.due("search of none", ends.search(), 5);
            for (int i = 0; i < MOST_PATTERN; i++) {
                Check.due("room for all again", ends.patFeed(0), true);
            }
            ends.patClear();
            ends.patClear();
            Check.due("cleared twice", ends.count(1), 0);
            Words.patFeed(ends, "ab");
            Check.due("nothing of the old one", ends.search(), 2);
        }
    }

    private static void patClearLeavesTheText() {
        Check.sentence("10: The pattern is empty [and no more]");
        TextEnds ends = Words.built("abcab");
        Words.patFeed(ends, "ab");
        ends.patClear();
        Check.due("all answers", Answers.of(ends), Answers.of(Words.built("abcab")));
        TextEnds unbuilt = Words.fed("abcab");
        unbuilt.patClear();
        Answers.noneDue("not built as before", unbuilt);
    }

    private static void searchOfTheEmptyPattern() {
        Check.sentence("11: (an empty one as often as there are letters)");
        Check.due("in nothing", Words.found("", ""), 0);
        Check.due("in one letter", Words.found("z", ""), 1);
        Check.due("in two", Words.found("ba", ""), 2);
        TextEnds full = largest(255);
        Check.due("in 1000", full.search(), MOST_LETTERS);
        full.patFeed(0);
        full.patClear();
        Check.due("in 1000, empty again", full.search(), MOST_LETTERS);
    }

    private static void searchOfEdges() {
        Check.sentence("11: How often the pattern stands in the text");
        Check.due("a letter in nothing", Words.found("", "a"), 0);
        Check.due("the only letter", Words.found("m", "m"), 1);
        Check.due("before the only letter", Words.found("m", "l"), 0);
        Check.due("behind the only letter", Words.found("m", "n"), 0);
        Check.due("the whole text", Words.found("abcab", "abcab"), 1);
        Check.due("one letter longer than the text", Words.found("abcab", "abcaba"), 0);
        Check.due("over itself", Words.found("aaaaa", "aa"), 4);
        Check.due("over the last letter", Words.found("abcab", "aba"), 0);
        Check.due("at the first place alone", Words.found("abcbc", "ab"), 1);
        Check.due("at the last place alone", Words.found("abcbd", "d"), 1);
        Check.due("less than all ends", Words.found("bcbc", "ab"), 0);
        Check.due("more than all ends", Words.found("bcbc", "cc"), 0);
        TextEnds ends = new TextEnds(9, 256, 9);
        ends.feedAll(0xff00ff80, 0x7f000000, 0, 0, 5);
        ends.build();
        for (int[] due : new int[][] {{255, 2}, {128, 1}, {127, 1}, {0, 1}, {126, 0}, {254, 0}, {1, 0}}) {
            ends.patClear();
            ends.patFeed(due[0]);
            Check.due("letter " + due[0], ends.search(), due[1]);
        }
    }

    private static void searchOfAFullPattern() {
        Check.sentence("11: How often the pattern stands in the text [a full one]");
        TextEnds full = largest(255);
        for (int i = 0; i < MOST_PATTERN; i++) {
            full.patFeed(255);
        }
        Check.due("64 of 1000", full.search(), MOST_LETTERS - MOST_PATTERN + 1);
        Check.due("the shortest end", full.hit(0), MOST_LETTERS - MOST_PATTERN);
        Check.due("the whole", full.hit(MOST_LETTERS - MOST_PATTERN), 0);
        Check.due("no more", full.hit(MOST_LETTERS - MOST_PATTERN + 1), -1);
        TextEnds exact = new TextEnds(MOST_PATTERN, 2, MOST_PATTERN);
        Packed.feed(exact, Numbers.alike(1, MOST_PATTERN));
        exact.build();
        for (int i = 1; i < MOST_PATTERN; i++) {
            exact.patFeed(1);
        }
        exact.patFeed(0);
        Check.due("unlike at letter 64", exact.search(), 0);
    }

    private static void searchNotBuilt() {
        Check.sentence("11: -1 if the text is not built");
        TextEnds ends = new TextEnds(9, 26, 9);
        Check.due("new", ends.search(), -1);
        ends.patFeed(0);
        Check.due("new, with a pattern", ends.search(), -1);
        ends.feed(0);
        Check.due("a letter", ends.search(), -1);
        ends.build();
        Check.due("built", ends.search(), 1);
        ends.feed(0);
        Check.due("a letter more", ends.search(), -1);
        Check.due("no hit of that", ends.hit(0), -1);
        ends.build();
        Check.due("built again, with the pattern it had", ends.search(), 2);
        ends.clear();
        Check.due("cleared", ends.search(), -1);
    }

    private static void hitIfThereIsNone() {
        Check.sentence("12: -1 if there is none");
        String[][] pairs = {{"", ""}, {"", "a"}, {"a", ""}, {"a", "a"}, {"a", "b"}, {"banana", "an"}, {"banana", "nab"}};
        int[] found = {0, 0, 1, 1, 0, 2, 0};
        for (int i = 0; i < pairs.length; i++) {
            String name = "'" + pairs[i][1] + "' in '" + pairs[i][0] + "' ";
            TextEnds ends = Words.searched(pairs[i][0], pairs[i][1]);
            for (int k : Numbers.outside(0, found[i] - 1)) {
                Check.due(name + "hit(" + k + ")", ends.hit(k), -1);
            }
            for (int k = 0; k < found[i]; k++) {
                Check.due(name + "hit(" + k + ") is one", ends.hit(k) >= 0, true);
            }
        }
    }

    private static void hitBeforeAnySearch() {
        Check.sentence("12: as the latest search() found [there was none]");
        TextEnds ends = new TextEnds(9, 26, 9);
        Check.due("new", ends.hit(0), -1);
        Words.feed(ends, "abab");
        Check.due("fed", ends.hit(0), -1);
        ends.build();
        Check.due("built", ends.hit(0), -1);
        Words.patFeed(ends, "ab");
        Check.due("with a pattern", ends.hit(0), -1);
    }

    private static void hitOfTheLatestSearch() {
        Check.sentence("12: The place of the k-th end, by the order, .. as the latest search() found");
        TextEnds ends = Words.searched("banana", "");
        int[] due = {5, 3, 1, 0, 4, 2};
        for (int k = 0; k < due.length; k++) {
            Check.due("hit(" + k + ") of the empty pattern", ends.hit(k), due[k]);
        }
        Words.patFeed(ends, "n");
        ends.search();
        Check.due("first of n", ends.hit(0), 4);
        Check.due("last of n", ends.hit(1), 2);
        Check.due("no more of n", ends.hit(2), -1);
        Words.patFeed(ends, "n");
        Check.due("search of nn", ends.search(), 0);
        Check.due("none of nn", ends.hit(0), -1);
        ends.patClear();
        Words.patFeed(ends, "ana");
        Check.due("search of ana", ends.search(), 2);
        Check.due("search of ana again", ends.search(), 2);
        Check.due("first of ana", ends.hit(0), 3);
        Check.due("last of ana", ends.hit(1), 1);
    }

    private static void hitOfMany() {
        Check.sentence("12: The place of the k-th end [of 1000]");
        TextEnds full = largest(0);
        full.search();
        Check.due("the first", full.hit(0), MOST_LETTERS - 1);
        Check.due("the last", full.hit(MOST_LETTERS - 1), 0);
        for (int k : Numbers.outside(0, MOST_LETTERS - 1)) {
            Check.due("hit(" + k + ")", full.hit(k), -1);
        }
    }

    private static void hitWhenTheTextChanged() {
        Check.sentence("12: -1 if .. text .. has changed since that");
        TextEnds fed = Words.searched("abab", "ab");
        fed.feed(25);
        Check.due("by feed()", fed.hit(0), -1);
        fed.build();
        Check.due("by feed(), and built", fed.hit(0), -1);
        fed.search();
        Check.due("searched again", fed.hit(0), 0);
        TextEnds fedAll = Words.searched("abab", "ab");
        Check.due("one comes", fedAll.feedAll(0x19ffffff, 0, 0, 0, 4), 1);
        Check.due("by feedAll()", fedAll.hit(0), -1);
        fedAll.build();
        Check.due("by feedAll(), and built", fedAll.hit(0), -1);
        TextEnds cleared = Words.searched("abab", "");
        cleared.clear();
        Check.due("by clear()", cleared.hit(0), -1);
        Words.feed(cleared, "abab");
        cleared.build();
        Check.due("by clear(), and the same text built", cleared.hit(0), -1);
    }

    private static void hitWhenThePatternChanged() {
        Check.sentence("12: -1 if .. pattern .. has changed since that");
        TextEnds ends = Words.searched("ababa", "a");
        Check.due("hit", ends.hit(0), 4);
        ends.patFeed(1);
        Check.due("by patFeed()", ends.hit(0), -1);
        ends.build();
        Check.due("by patFeed(), and build() of a built text", ends.hit(0), -1);
        ends.search();
        Check.due("searched again", ends.hit(0), 2);
        TextEnds empty = Words.searched("ababa", "");
        Check.due("hit of the empty one", empty.hit(4), 1);
        empty.patFeed(0);
        Check.due("the first letter of a pattern", empty.hit(0), -1);
    }

    private static void hitBehindPatClear() {
        Check.sentence("12: (also by patClear())");
        TextEnds ends = Words.searched("abab", "ab");
        ends.patClear();
        Check.due("hit", ends.hit(0), -1);
        Words.patFeed(ends, "ab");
        Check.due("the same pattern again", ends.hit(0), -1);
        ends.search();
        Check.due("searched again", ends.hit(0), 2);
        TextEnds empty = Words.searched("abab", "");
        empty.patClear();
        Check.due("an empty pattern cleared", empty.hit(0), -1);
    }

    private static void hitBehindARefusedLetter() {
        Check.sentence("12: (a letter that was refused is no change)");
        TextEnds ends = new TextEnds(4, 26, 2);
        Words.feed(ends, "abab");
        ends.build();
        Words.patFeed(ends, "ab");
        Check.due("search", ends.search(), 2);
        Check.due("feed of none", ends.feed(26), false);
        hitsOfAbDue("behind feed() of none", ends);
        Check.due("feed without room", ends.feed(0), false);
        hitsOfAbDue("behind feed() without room", ends);
        Check.due("feedAll of none", ends.feedAll(-1, 0, 0, 0, 16), 0);
        hitsOfAbDue("behind feedAll() of none", ends);
        Check.due("feedAll without room", ends.feedAll(0, 0, 0, 0, 16), 0);
        hitsOfAbDue("behind feedAll() without room", ends);
        Check.due("feedAll of no letters", ends.feedAll(0, 0, 0, 0, 0), 0);
        hitsOfAbDue("behind feedAll() of no letters", ends);
        Check.due("patFeed of none", ends.patFeed(-1), false);
        hitsOfAbDue("behind patFeed() of none", ends);
        Check.due("patFeed without room", ends.patFeed(0), false);
        hitsOfAbDue("behind patFeed() without room", ends);
        TextEnds roomy = Words.searched("abab", "ab");
        Check.due("feed of none beside room", roomy.feed(-1), false);
        Check.due("feedAll of none beside room", roomy.feedAll(0x1a000000, 0, 0, 0, 16), 0);
        Check.due("patFeed of none beside room", roomy.patFeed(26), false);
        hitsOfAbDue("behind refused ones beside room", roomy);
    }

    private static void hitsOfAbDue(String when, TextEnds ends) {
        Check.due(when + ": hit(0)", ends.hit(0), 2);
        Check.due(when + ": hit(1)", ends.hit(1), 0);
        Check.due(when + ": hit(2)", ends.hit(2), -1);
    }

    private static void hitBehindCallsThatChangeNothing() {
        Check.sentence("12: -1 if .. changed since that [it has not]");
        TextEnds ends = Words.searched("abab", "ab");
        Answers.of(ends);
        hitsOfAbDue("behind all that only tells", ends);
        Check.due("build of a built text", ends.build(), 4);
        hitsOfAbDue("behind build() of a built text", ends);
    }
}
