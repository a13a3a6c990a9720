/** A method for each sentence on an edge of the text: the 512 calls, 'Terms', promises 1 to 4, 16 and 17. */
public final class EdgesOfTextTest {
    private static final int CALLS = 512;
    private static final int MOST_LETTERS = 1000;
    private static final int SIXTEEN = 16;

    public static void main(String[] args) {
        lastCallOfAnObject();
        lastCallThatBuilds();
        callsBehindTheLast();
        lettersBelowSigma();
        placesFromZeroOn();
        notBuilt();
        emptyAtFirst();
        roomForLetters();
        sigma();
        roomForThePattern();
        nearestEach();
        notBuiltWhenALetterCame();
        refusedIfItIsNone();
        refusedWithoutRoom();
        firstOfSixteen();
        highestByteFirst();
        asByFeed();
        asFarAsEachIsOne();
        noneBehindOneThatDidNotCome();
        noneBehindTheRoom();
        noneForAWrongNumber();
        buildOfEachLength();
        buildOfAShorterText();
        countOfAnotherWhat();
        countOfWhetherBuilt();
        clearOfNothing();
        clearOfAFullObject();
        Check.end();
    }

    private static TextEnds full(int room, int sigma, int letter) {
        TextEnds ends = new TextEnds(room, sigma, 64);
        Check.due("a full room", Packed.feed(ends, Numbers.alike(letter, room)), room);
        return ends;
    }

    private static void lastCallOfAnObject() {
        Check.sentence("An object is used for at most 512 calls");
        TextEnds ends = new TextEnds(MOST_LETTERS, 256, 64);
        for (int call = 1; call < CALLS; call++) {
            Check.due("call " + call, ends.feed(call & 255), true);
        }
        Check.due("call 512", ends.count(0), CALLS - 1);
    }

    private static void lastCallThatBuilds() {
        Check.sentence("An object is used for at most 512 calls");
        TextEnds ends = new TextEnds(MOST_LETTERS, 2, 64);
        for (int round = 1; round <= CALLS / 4; round++) {
            Check.due("feed in round " + round, ends.feed(1), true);
            Check.due("build in round " + round, ends.build(), round);
            Check.due("search in round " + round, ends.search(), round);
            Check.due("hit in round " + round, ends.hit(0), round - 1);
        }
    }

    private static void callsBehindTheLast() {
        Check.sentence("what later calls answer is free");
        TextEnds ends = new TextEnds(MOST_LETTERS, 3, 64);
        int calls = 0;
        for (int round = 0; round < CALLS; round++) {
            ends.feed(round % 3);
            ends.build();
            ends.patFeed(round % 3);
            ends.search();
            ends.hit(round);
            ends.repeatedAt();
            ends.different();
            calls += 7;
        }
        // Their answers are free, but none may throw or fail to end.
        Check.due("calls that came back", calls, 7 * CALLS);
    }

    private static void lettersBelowSigma() {
        Check.sentence("A TEXT has letters 0 .. SIGMA less 1");
        for (int sigma : new int[] {1, 2, 26, 127, 128, 129, 255, 256}) {
            TextEnds ends = new TextEnds(9, sigma, 9);
            Check.due("sigma " + sigma + ", feed(0)", ends.feed(0), true);
            Check.due("sigma " + sigma + ", feed of its last", ends.feed(sigma - 1), true);
            Check.due("sigma " + sigma + ", feedAll of its last", ends.feedAll(sigma - 1 << 24, 0, 0, 0, 1), 1);
            Check.due("sigma " + sigma + ", patFeed(0)", ends.patFeed(0), true);
            Check.due("sigma " + sigma + ", patFeed of its last", ends.patFeed(sigma - 1), true);
            for (int letter : Numbers.outside(0, sigma - 1)) {
                Check.due("sigma " + sigma + ", feed(" + letter + ")", ends.feed(letter), false);
                Check.due("sigma " + sigma + ", patFeed(" + letter + ")", ends.patFeed(letter), false);
            }
            for (int letter = sigma; letter < 256; letter++) {
                Check.due("sigma " + sigma + ", feedAll of " + letter, ends.feedAll(letter << 24, 0, 0, 0, 1), 0);
            }
            Answers.lettersDue("sigma " + sigma, ends, 0, sigma - 1, sigma - 1);
        }
    }

    private static void placesFromZeroOn() {
        Check.sentence("at places from 0 on");
        TextEnds one = Words.built("z");
        Check.due("the place of the only letter", one.sa(0), 0);
        Check.due("the only place", one.rank(0), 0);
        TextEnds two = Words.built("ba");
        Check.due("the place of the first letter", two.sa(1), 0);
        Check.due("the place of the second letter", two.sa(0), 1);
        Check.due("no place before", two.rank(-1), -1);
        Check.due("no place behind", two.rank(2), -1);
    }

    private static void notBuilt() {
        Check.sentence("told of the text as it was BUILT, and only while no letter has come since");
        TextEnds ends = Words.searched("abab", "b");
        Check.due("refused", ends.feed(26), false);
        Check.due("told while none came", ends.sa(0), 2);
        ends.feed(1);
        Answers.noneDue("behind feed()", ends);
        Check.due("build", ends.build(), 5);
        Check.due("told anew", ends.sa(2), 4);
        Check.due("two come, the third is none", ends.feedAll(0x00001aff, 0, 0, 0, 4), 2);
        Answers.noneDue("behind feedAll()", ends);
        Check.due("build", ends.build(), 7);
        Check.due("told anew", ends.sa(0), 6);
        ends.patFeed(1);
        ends.patClear();
        Check.due("a pattern is no text", ends.sa(0), 6);
        ends.clear();
        Answers.noneDue("behind clear()", ends);
    }

    private static void emptyAtFirst() {
        Check.sentence("1: An empty text, an empty pattern, not built");
        for (int room : new int[] {1, 2, MOST_LETTERS}) {
            TextEnds ends = new TextEnds(room, 256, 64);
            Check.due("letters", ends.count(0), 0);
            Check.due("letters of the pattern", ends.count(1), 0);
            Answers.noneDue("new", ends);
            Check.due("build", ends.build(), 0);
            Check.due("the empty pattern in the empty text", ends.search(), 0);
        }
    }

    private static void roomForLetters() {
        Check.sentence("1: room for so many letters (1 .. 1000)");
        for (int room : new int[] {1, 2, 3, 255, 256, 257, 999, 1000}) {
            roomDue(room, room);
        }
        for (int asked : Numbers.outside(1, MOST_LETTERS)) {
            roomDue(asked, asked < 1 ? 1 : MOST_LETTERS);
        }
    }

    private static void roomDue(int asked, int room) {
        TextEnds ends = new TextEnds(asked, 2, 1);
        Check.due("room when " + asked + " are asked for", ends.count(3), room);
        Check.due("letters that have room of " + asked, Packed.feed(ends, Numbers.alike(1, room)), room);
        Check.due("one letter more than " + asked, ends.feed(1), false);
        Check.due("letters in a room of " + asked, ends.build(), room);
        Check.due("last of the order in a room of " + asked, ends.sa(room - 1), 0);
    }

    private static void sigma() {
        Check.sentence("1: sigma (1 .. 256)");
        for (int sigma : new int[] {1, 2, 3, 127, 128, 255, 256}) {
            sigmaDue(sigma, sigma);
        }
        for (int asked : Numbers.outside(1, 256)) {
            sigmaDue(asked, asked < 1 ? 1 : 256);
        }
    }

    private static void sigmaDue(int asked, int sigma) {
        TextEnds ends = new TextEnds(2, asked, 1);
        Check.due("sigma when " + asked + " is asked for", ends.count(4), sigma);
        Check.due("the last letter of " + asked, ends.feed(sigma - 1), true);
        Check.due("a letter beyond " + asked, ends.feed(sigma), false);
        Check.due("the first letter of " + asked, ends.feed(0), true);
        Check.due("build with sigma " + asked, ends.build(), 2);
        Check.due("the end of the first letter, sigma " + asked, ends.sa(0), 1);
    }

    private static void roomForThePattern() {
        Check.sentence("1: room for so many letters of a pattern (1 .. 64)");
        for (int room : new int[] {1, 2, 3, 63, 64}) {
            patternRoomDue(room, room);
        }
        for (int asked : Numbers.outside(1, 64)) {
            patternRoomDue(asked, asked < 1 ? 1 : 64);
        }
    }

    private static void patternRoomDue(int asked, int room) {
        TextEnds ends = new TextEnds(100, 2, asked);
        Check.due("room for the pattern when " + asked + " are asked for", ends.count(5), room);
        for (int i = 0; i < room; i++) {
            Check.due("letter " + i + " of a pattern of " + asked, ends.patFeed(1), true);
        }
        Check.due("one letter more than " + asked, ends.patFeed(1), false);
        Packed.feed(ends, Numbers.alike(1, 100));
        ends.build();
        Check.due("search of a full pattern of " + asked, ends.search(), 101 - room);
    }

    private static void nearestEach() {
        Check.sentence("1: the nearest each");
        int[][] texts = {{Integer.MIN_VALUE, 1}, {0, 1}, {7, 7}, {1001, 1000}, {Integer.MAX_VALUE, 1000}};
        int[][] sigmas = {{Integer.MIN_VALUE, 1}, {0, 1}, {7, 7}, {257, 256}, {Integer.MAX_VALUE, 256}};
        int[][] patterns = {{Integer.MIN_VALUE, 1}, {0, 1}, {7, 7}, {65, 64}, {Integer.MAX_VALUE, 64}};
        for (int[] text : texts) {
            for (int[] sigma : sigmas) {
                for (int[] pattern : patterns) {
                    TextEnds ends = new TextEnds(text[0], sigma[0], pattern[0]);
                    String name = "new(" + text[0] + ", " + sigma[0] + ", " + pattern[0] + ") ";
                    Check.due(name + "room", ends.count(3), text[1]);
                    Check.due(name + "sigma", ends.count(4), sigma[1]);
                    Check.due(name + "room for the pattern", ends.count(5), pattern[1]);
                }
            }
        }
    }

    private static void notBuiltWhenALetterCame() {
        Check.sentence("2: A letter comes to the text, which is not built then");
        TextEnds ends = new TextEnds(2, 1, 1);
        ends.build();
        Check.due("the first", ends.feed(0), true);
        Answers.noneDue("one letter", ends);
        Check.due("letters", ends.count(0), 1);
        ends.build();
        Check.due("the last that has room", ends.feed(0), true);
        Answers.noneDue("full", ends);
        Check.due("letters", ends.count(0), 2);
        Check.due("build", ends.build(), 2);
    }

    private static void refusedIfItIsNone() {
        Check.sentence("2: false (and nothing changes) if it is none");
        for (int letter : Numbers.outside(0, 25)) {
            TextEnds ends = Words.searched("abcab", "ab");
            String before = Answers.of(ends);
            Check.due("feed(" + letter + ")", ends.feed(letter), false);
            Check.due("all behind feed(" + letter + ")", Answers.of(ends), before);
            TextEnds unbuilt = Words.fed("ab");
            Check.due("feed(" + letter + ") to a text not built", unbuilt.feed(letter), false);
            Answers.noneDue("behind feed(" + letter + ")", unbuilt);
            Answers.lettersDue("behind feed(" + letter + ")", unbuilt, 0, 1);
        }
    }

    private static void refusedWithoutRoom() {
        Check.sentence("2: false (and nothing changes) if .. there is no room");
        TextEnds ends = new TextEnds(5, 26, 2);
        Words.feed(ends, "abcab");
        ends.build();
        Words.patFeed(ends, "ab");
        ends.search();
        String before = Answers.of(ends);
        Check.due("feed of the sixth", ends.feed(2), false);
        Check.due("feed of one that is none either", ends.feed(26), false);
        Check.due("all behind that", Answers.of(ends), before);
        ends.clear();
        Check.due("room again", ends.feed(2), true);
        TextEnds largest = full(MOST_LETTERS, 256, 255);
        largest.build();
        Check.due("feed of letter 1001", largest.feed(0), false);
        Check.due("letters", largest.count(0), MOST_LETTERS);
        Check.due("still built", largest.count(2), 1);
        Check.due("the last letter as it was", largest.sa(0), MOST_LETTERS - 1);
    }

    private static void firstOfSixteen() {
        Check.sentence("3: The first n of sixteen letters come");
        for (int n = 1; n <= SIXTEEN; n++) {
            TextEnds ends = new TextEnds(40, 256, 64);
            Check.due("first " + n, ends.feedAll(0x10203040, 0x50607080, 0x90a0b0c0, 0xd0e0f0ff, n), n);
            int[] due = new int[n];
            for (int i = 0; i < n; i++) {
                due[i] = i < 15 ? 16 * (i + 1) : 255;
            }
            Answers.lettersDue("first " + n, ends, due);
        }
    }

    private static void highestByteFirst() {
        Check.sentence("3: (a byte each, the highest of each number first)");
        TextEnds ends = new TextEnds(40, 256, 64);
        Check.due("all", ends.feedAll(Integer.MIN_VALUE, Integer.MAX_VALUE, -1, 0x007f8001, SIXTEEN), SIXTEEN);
        Answers.lettersDue("all", ends, 128, 0, 0, 0, 127, 255, 255, 255, 255, 255, 255, 255, 0, 127, 128, 1);
    }

    private static void asByFeed() {
        Check.sentence("3: as by feed()");
        TextEnds ends = Words.searched("ab", "b");
        Check.due("one", ends.feedAll(0, 0, 0, 0, 1), 1);
        Answers.noneDue("behind one", ends);
        TextEnds single = Words.fed("aba");
        ends.build();
        single.build();
        ends.patClear();
        Check.due("all answers", Answers.of(ends), Answers.of(single));
    }

    private static void asFarAsEachIsOne() {
        Check.sentence("3: as far as each is one: how many came");
        for (int none : new int[] {200, 201, 255}) {
            for (int at = 0; at < SIXTEEN; at++) {
                TextEnds ends = new TextEnds(40, 200, 64);
                int[] numbers = sixteenWithOneThatIsNone(none, at);
                int came = ends.feedAll(numbers[0], numbers[1], numbers[2], numbers[3], SIXTEEN);
                Check.due(none + " at place " + at, came, at);
                Answers.lettersDue(none + " at place " + at, ends, downFrom199(at));
            }
        }
        TextEnds ends = new TextEnds(40, 200, 64);
        Check.due("one that is none behind the n-th", ends.feedAll(0x010203ff, 0, 0, 0, 3), 3);
        Answers.lettersDue("one that is none behind the n-th", ends, 1, 2, 3);
    }

    private static int[] downFrom199(int length) {
        int[] letters = new int[length];
        for (int i = 0; i < length; i++) {
            letters[i] = 199 - i;
        }
        return letters;
    }

    private static int[] sixteenWithOneThatIsNone(int none, int at) {
        int[] numbers = new int[4];
        for (int i = 0; i < SIXTEEN; i++) {
            numbers[i / 4] = numbers[i / 4] << 8 | (i == at ? none : 199 - i);
        }
        return numbers;
    }

    private static void noneBehindOneThatDidNotCome() {
        Check.sentence("3: none of those behind one that did not");
        TextEnds ends = Words.searched("abcab", "ab");
        String before = Answers.of(ends);
        Check.due("the first is none", ends.feedAll(0x1a000000, 0, 0, 0, SIXTEEN), 0);
        Check.due("all when none came", Answers.of(ends), before);
        Check.due("the second is none", ends.feedAll(0x03ff0404, 0, 0, 0, SIXTEEN), 1);
        Answers.lettersDue("when one came", ends, 0, 1, 2, 0, 1, 3);
    }

    private static void noneBehindTheRoom() {
        Check.sentence("3: none of those behind one that did not [no room]");
        TextEnds ends = new TextEnds(5, 26, 5);
        Check.due("as many as have room", ends.feedAll(0x00010203, 0x04050607, 0, 0, SIXTEEN), 5);
        Answers.lettersDue("as many as have room", ends, 0, 1, 2, 3, 4);
        String before = Answers.of(ends);
        Check.due("no room for one", ends.feedAll(0, 0, 0, 0, 1), 0);
        Check.due("no room for sixteen", ends.feedAll(0, 0, 0, 0, SIXTEEN), 0);
        Check.due("all when none came", Answers.of(ends), before);
        TextEnds largest = new TextEnds(MOST_LETTERS, 2, 1);
        Check.due("all but ten", Packed.feed(largest, Numbers.alike(1, MOST_LETTERS - 10)), MOST_LETTERS - 10);
        Check.due("the last ten", largest.feedAll(0, 0, 0, 0, SIXTEEN), 10);
        Check.due("full", largest.build(), MOST_LETTERS);
    }

    private static void noneForAWrongNumber() {
        Check.sentence("3: None when n is not 1 .. 16");
        for (int n : Numbers.outside(1, SIXTEEN)) {
            TextEnds ends = Words.searched("abcab", "ab");
            String before = Answers.of(ends);
            Check.due("n = " + n, ends.feedAll(0, 0, 0, 0, n), 0);
            Check.due("all behind n = " + n, Answers.of(ends), before);
        }
    }

    private static void buildOfEachLength() {
        Check.sentence("4: The text is built: how many letters it has");
        for (int length : new int[] {0, 1, 2, 3, 255, 256, 257, 999, 1000}) {
            TextEnds ends = new TextEnds(MOST_LETTERS, 256, 1);
            Packed.feed(ends, Numbers.alike(255, length));
            Check.due("not built, " + length, ends.count(2), 0);
            Check.due("build, " + length, ends.build(), length);
            Check.due("built, " + length, ends.count(2), 1);
            Check.due("build again, " + length, ends.build(), length);
            Check.due("built as before, " + length, ends.count(2), 1);
            Check.due("first end, " + length, ends.sa(0), length - 1);
            Check.due("search, " + length, ends.search(), length);
        }
    }

    private static void buildOfAShorterText() {
        Check.sentence("4: The text is built [a shorter one than before]");
        TextEnds ends = full(MOST_LETTERS, 26, 0);
        ends.build();
        ends.clear();
        Words.feed(ends, "abcab");
        Check.due("build", ends.build(), 5);
        Words.patFeed(ends, "ab");
        Check.due("search", ends.search(), 2);
        TextEnds fresh = Words.searched("abcab", "ab");
        Check.due("all answers", Answers.of(ends), Answers.of(fresh));
        ends.clear();
        Check.due("build of nothing", ends.build(), 0);
        Check.due("nothing in order", ends.sa(0), -1);
        Check.due("nothing stands twice", ends.repeated(), 0);
        Check.due("at no place", ends.repeatedAt(), -1);
        Check.due("no parts", ends.different(), 0);
    }

    private static void countOfAnotherWhat() {
        Check.sentence("16: -1 for another what");
        TextEnds ends = Words.searched("abcab", "ab");
        for (int what : Numbers.outside(0, 5)) {
            Check.due("count(" + what + ")", ends.count(what), -1);
            Check.due("count(" + what + ") of a new one", new TextEnds(1, 1, 1).count(what), -1);
        }
        int[] due = {5, 2, 1, 1000, 26, 64};
        for (int what = 0; what < due.length; what++) {
            Check.due("count(" + what + ")", ends.count(what), due[what]);
        }
    }

    private static void countOfWhetherBuilt() {
        Check.sentence("16: 2 whether the text is built");
        TextEnds ends = new TextEnds(1, 1, 1);
        Check.due("new", ends.count(2), 0);
        ends.build();
        Check.due("built, empty", ends.count(2), 1);
        ends.feed(0);
        Check.due("a letter came", ends.count(2), 0);
        ends.build();
        Check.due("built, full", ends.count(2), 1);
        ends.feed(0);
        Check.due("a letter was refused", ends.count(2), 1);
        ends.patFeed(0);
        ends.patClear();
        Check.due("the pattern changed", ends.count(2), 1);
        ends.clear();
        Check.due("cleared", ends.count(2), 0);
    }

    private static void clearOfNothing() {
        Check.sentence("17: An empty text and pattern, not built [from nothing]");
        TextEnds ends = new TextEnds(5, 4, 3);
        ends.clear();
        Check.due("as new", Answers.of(ends), Answers.of(new TextEnds(5, 4, 3)));
        ends.build();
        ends.clear();
        Check.due("as new when it was built", Answers.of(ends), Answers.of(new TextEnds(5, 4, 3)));
        Answers.noneDue("cleared", ends);
    }

    private static void clearOfAFullObject() {
        Check.sentence("17: An empty text and pattern, not built");
        TextEnds ends = new TextEnds(5, 4, 3);
        for (int round = 0; round < 3; round++) {
            Check.due("full text", ends.feedAll(0x03020103, 0x02000000, 0, 0, SIXTEEN), 5);
            for (int i = 0; i < 3; i++) {
                Check.due("full pattern", ends.patFeed(3 - i), true);
            }
            Check.due("no room for the pattern", ends.patFeed(0), false);
            Check.due("build", ends.build(), 5);
            Check.due("search", ends.search(), 1);
            Check.due("hit", ends.hit(0), 0);
            ends.clear();
            Check.due("as new", Answers.of(ends), Answers.of(new TextEnds(5, 4, 3)));
        }
        Check.due("build of nothing", ends.build(), 0);
        Check.due("search of nothing in nothing", ends.search(), 0);
        Check.due("no hit", ends.hit(0), -1);
    }
}
