/** A method for each sentence on an edge of the order: 'Terms', promises 5 to 8 and 13 to 15. */
public final class EdgesOfOrderTest {
    private static final int MOST_LETTERS = 1000;
    private static final String[] WORDS = {"", "a", "aa", "ab", "ba", "abc", "cba", "banana", "mississippi"};

    public static void main(String[] args) {
        endsToTheLastLetter();
        lesserFirstUnlikeLetter();
        endThatAnotherBeginsWith();
        commonLetters();
        saNotBuilt();
        saNoSuchPlace();
        lcpNotBuilt();
        lcpNoSuchPlaces();
        rankNotBuilt();
        rankNoSuchEnd();
        commonNotBuilt();
        commonIfOneIsNone();
        commonOfTheLastAndTheWhole();
        repeatedAtTwoPlaces();
        repeatedNotBuilt();
        repeatedAtTheLeastPlace();
        repeatedAtOfTheFirstInTheOrder();
        repeatedAtNone();
        repeatedAtNotBuilt();
        differentPartsOfOneLetterOrMore();
        differentOfTheLargest();
        differentNotBuilt();
        Check.end();
    }

    private static TextEnds largest(int letter) {
        TextEnds ends = new TextEnds(MOST_LETTERS, 256, 64);
        Packed.feed(ends, Numbers.alike(letter, MOST_LETTERS));
        ends.build();
        return ends;
    }

    // No two neighbours stand side by side twice: the steps from one to the next are 1, then 3, 5, 7,
    // each so long that it meets all 256 letters once.
    private static TextEnds largestWithoutAPairTwice() {
        int[] letters = new int[MOST_LETTERS];
        letters[0] = 5;
        for (int i = 1; i < MOST_LETTERS; i++) {
            int step = 2 * ((i - 1) / 256) + 1;
            letters[i] = letters[i - 1] + step & 255;
        }
        TextEnds ends = new TextEnds(MOST_LETTERS, 256, 64);
        Packed.feed(ends, letters);
        ends.build();
        return ends;
    }

    private static void orderDue(TextEnds ends, int... due) {
        for (int i = 0; i < due.length; i++) {
            Check.due("sa(" + i + ")", ends.sa(i), due[i]);
            Check.due("rank(" + due[i] + ")", ends.rank(due[i]), i);
        }
        Check.due("sa behind the last", ends.sa(due.length), -1);
    }

    private static void endsToTheLastLetter() {
        Check.sentence("ITS ENDS are its parts from a place to the last letter");
        orderDue(Words.built(""));
        orderDue(Words.built("a"), 0);
        TextEnds ends = Words.built("ab");
        orderDue(ends, 0, 1);
        // A part without letters begins at no place, so it is none of them.
        Check.due("place behind the last letter", ends.rank(2), -1);
        Check.due("common with nothing", ends.common(0, 2), -1);
        Check.due("the end of the last letter alone", ends.common(1, 1), 1);
    }

    private static void lesserFirstUnlikeLetter() {
        Check.sentence("of two the one with the lesser first unlike letter first");
        TextEnds ends = new TextEnds(9, 256, 1);
        ends.feedAll(0x80ff007f, 0x0100fe00, 0, 0, 8);
        ends.build();
        orderDue(ends, 7, 2, 5, 4, 3, 0, 6, 1);
        TextEnds late = new TextEnds(MOST_LETTERS, 3, 1);
        Packed.feed(late, Numbers.alike(1, MOST_LETTERS - 1));
        late.feed(2);
        late.build();
        Check.due("unlike at the last letter", late.sa(0), 0);
        Check.due("the last letter", late.sa(MOST_LETTERS - 1), MOST_LETTERS - 1);
        Check.due("the last but one", late.sa(MOST_LETTERS - 2), MOST_LETTERS - 2);
    }

    private static void endThatAnotherBeginsWith() {
        Check.sentence("an end that another one begins with, before that");
        orderDue(Words.built("aaaa"), 3, 2, 1, 0);
        orderDue(Words.built("abab"), 2, 0, 3, 1);
        for (int letter : new int[] {0, 1, 255}) {
            TextEnds ends = largest(letter);
            for (int i = 0; i < 10; i++) {
                Check.due("sa(" + i + ") of letters " + letter, ends.sa(i), MOST_LETTERS - 1 - i);
                Check.due("rank(" + i + ") of letters " + letter, ends.rank(i), MOST_LETTERS - 1 - i);
            }
            Check.due("the whole last, letters " + letter, ends.sa(MOST_LETTERS - 1), 0);
        }
    }

    private static void commonLetters() {
        Check.sentence("COMMON of two ends are as many letters as both begin with alike");
        TextEnds ends = Words.built("abcabd");
        Check.due("not the first letter", ends.common(0, 1), 0);
        Check.due("up to one unlike", ends.common(0, 3), 2);
        Check.due("the other way round", ends.common(3, 0), 2);
        Check.due("neighbours", ends.lcp(1), 2);
        TextEnds over = Words.built("abab");
        Check.due("one is all of the other's beginning", over.common(0, 2), 2);
        Check.due("neighbours of which one begins the other", over.lcp(1), 2);
    }

    private static void saNotBuilt() {
        Check.sentence("5: -1 if the text is not built");
        for (String word : WORDS) {
            TextEnds ends = Words.fed(word);
            for (int i = -1; i <= word.length(); i++) {
                Check.due(word + " sa(" + i + ")", ends.sa(i), -1);
            }
            ends.build();
            ends.feed(0);
            for (int i = -1; i <= word.length() + 1; i++) {
                Check.due(word + " and one more, sa(" + i + ")", ends.sa(i), -1);
            }
        }
    }

    private static void saNoSuchPlace() {
        Check.sentence("5: or there is no such place");
        for (String word : WORDS) {
            TextEnds ends = Words.built(word);
            for (int i : Numbers.outside(0, word.length() - 1)) {
                Check.due(word + " sa(" + i + ")", ends.sa(i), -1);
            }
            Check.due(word + " at the last place of the room", ends.sa(MOST_LETTERS - 1), -1);
        }
        TextEnds full = largest(7);
        Check.due("the first place", full.sa(0), MOST_LETTERS - 1);
        Check.due("the last place", full.sa(MOST_LETTERS - 1), 0);
        for (int i : Numbers.outside(0, MOST_LETTERS - 1)) {
            Check.due("full, sa(" + i + ")", full.sa(i), -1);
        }
    }

    private static void lcpNotBuilt() {
        Check.sentence("6: -1 if the text is not built");
        for (String word : WORDS) {
            TextEnds ends = Words.fed(word);
            for (int i = -1; i <= word.length(); i++) {
                Check.due(word + " lcp(" + i + ")", ends.lcp(i), -1);
            }
            ends.build();
            ends.feed(0);
            for (int i = -1; i <= word.length() + 1; i++) {
                Check.due(word + " and one more, lcp(" + i + ")", ends.lcp(i), -1);
            }
        }
    }

    private static void lcpNoSuchPlaces() {
        Check.sentence("6: -1 if .. i is not 1 .. its letters less 1");
        for (String word : WORDS) {
            TextEnds ends = Words.built(word);
            Check.due(word + " lcp(0)", ends.lcp(0), -1);
            for (int i : Numbers.outside(1, word.length() - 1)) {
                Check.due(word + " lcp(" + i + ")", ends.lcp(i), -1);
            }
            Check.due(word + " at the last place of the room", ends.lcp(MOST_LETTERS - 1), -1);
        }
        TextEnds full = largest(7);
        Check.due("the first two", full.lcp(1), 1);
        Check.due("the last two", full.lcp(MOST_LETTERS - 1), MOST_LETTERS - 1);
        for (int i : Numbers.outside(1, MOST_LETTERS - 1)) {
            Check.due("full, lcp(" + i + ")", full.lcp(i), -1);
        }
        TextEnds two = Words.built("aa");
        Check.due("the only two", two.lcp(1), 1);
        Check.due("the only two, unlike", Words.built("ab").lcp(1), 0);
    }

    private static void rankNotBuilt() {
        Check.sentence("7: -1 if the text is not built");
        for (String word : WORDS) {
            TextEnds ends = Words.fed(word);
            for (int place = -1; place <= word.length(); place++) {
                Check.due(word + " rank(" + place + ")", ends.rank(place), -1);
            }
            ends.build();
            ends.feed(0);
            for (int place = -1; place <= word.length() + 1; place++) {
                Check.due(word + " and one more, rank(" + place + ")", ends.rank(place), -1);
            }
        }
    }

    private static void rankNoSuchEnd() {
        Check.sentence("7: or there is no such end");
        for (String word : WORDS) {
            TextEnds ends = Words.built(word);
            for (int place : Numbers.outside(0, word.length() - 1)) {
                Check.due(word + " rank(" + place + ")", ends.rank(place), -1);
            }
            Check.due(word + " at the last place of the room", ends.rank(MOST_LETTERS - 1), -1);
        }
        TextEnds full = largest(7);
        Check.due("the whole", full.rank(0), MOST_LETTERS - 1);
        Check.due("the last letter", full.rank(MOST_LETTERS - 1), 0);
        for (int place : Numbers.outside(0, MOST_LETTERS - 1)) {
            Check.due("full, rank(" + place + ")", full.rank(place), -1);
        }
    }

    private static void commonNotBuilt() {
        Check.sentence("8: -1 if the text is not built");
        for (String word : WORDS) {
            TextEnds ends = Words.fed(word);
            for (int place = -1; place <= word.length(); place++) {
                Check.due(word + " common(" + place + ", 0)", ends.common(place, 0), -1);
                Check.due(word + " common(0, " + place + ")", ends.common(0, place), -1);
                Check.due(word + " common of " + place + " with itself", ends.common(place, place), -1);
            }
            ends.build();
            ends.feed(0);
            Check.due(word + " and one more", ends.common(0, 0), -1);
        }
    }

    private static void commonIfOneIsNone() {
        Check.sentence("8: or one is none");
        for (String word : WORDS) {
            int[] none = Numbers.outside(0, word.length() - 1);
            for (int place : none) {
                TextEnds ends = Words.built(word);
                for (int end = 0; end < word.length(); end++) {
                    Check.due(word + " common(" + place + ", " + end + ")", ends.common(place, end), -1);
                    Check.due(word + " common(" + end + ", " + place + ")", ends.common(end, place), -1);
                }
                for (int other : none) {
                    Check.due(word + " common(" + place + ", " + other + ")", ends.common(place, other), -1);
                }
            }
        }
    }

    private static void commonOfTheLastAndTheWhole() {
        Check.sentence("8: How much two ends have in common");
        TextEnds full = largest(0);
        Check.due("the whole with itself", full.common(0, 0), MOST_LETTERS);
        Check.due("the last letter with itself", full.common(MOST_LETTERS - 1, MOST_LETTERS - 1), 1);
        Check.due("the whole with the last letter", full.common(0, MOST_LETTERS - 1), 1);
        Check.due("the last letter with the whole", full.common(MOST_LETTERS - 1, 0), 1);
        Check.due("the whole with the next", full.common(0, 1), MOST_LETTERS - 1);
        Check.due("one letter with itself", Words.built("a").common(0, 0), 1);
    }

    private static void repeatedAtTwoPlaces() {
        Check.sentence("13: the longest part .. that stands at least at two places");
        Check.due("nothing", Words.built("").repeated(), 0);
        Check.due("one letter", Words.built("a").repeated(), 0);
        Check.due("two unlike", Words.built("ab").repeated(), 0);
        Check.due("two alike", Words.built("aa").repeated(), 1);
        Check.due("at three places, over itself", Words.built("ababab").repeated(), 4);
        Check.due("first and last", Words.built("abcda").repeated(), 1);
        Check.due("all letters once", Words.built("zyxwvutsrqponmlkjihgfedcba").repeated(), 0);
        Check.due("1000 alike", largest(255).repeated(), MOST_LETTERS - 1);
        Check.due("1000 without a pair twice", largestWithoutAPairTwice().repeated(), 1);
    }

    private static void repeatedNotBuilt() {
        Check.sentence("13: -1 if the text is not built");
        for (String word : WORDS) {
            TextEnds ends = Words.fed(word);
            Check.due(word, ends.repeated(), -1);
            ends.build();
            ends.feed(0);
            Check.due(word + " and one more", ends.repeated(), -1);
            ends.build();
            ends.clear();
            Check.due(word + " cleared", ends.repeated(), -1);
        }
    }

    private static void repeatedAtTheLeastPlace() {
        Check.sentence("14: The least place at which such a longest part stands");
        Check.due("two alike", Words.built("aa").repeatedAt(), 0);
        Check.due("the least place is last in the order", Words.built("abbaba").repeatedAt(), 0);
        Check.due("the least of three is the first in the order", Words.built("zabayabbxabc").repeatedAt(), 1);
        Check.due("the least of three is the middle in the order", Words.built("zabbyabaxabc").repeatedAt(), 1);
        Check.due("the least of three is the last in the order", Words.built("zabcyabaxabb").repeatedAt(), 1);
        Check.due("1000 alike", largest(255).repeatedAt(), 0);
    }

    private static void repeatedAtOfTheFirstInTheOrder() {
        Check.sentence("14: (of the first one in the order)");
        Check.due("the first in the order comes later", Words.built("bcbceabdab").repeatedAt(), 5);
        Check.due("the first in the order comes first", Words.built("abdabxbcybc").repeatedAt(), 0);
        Check.due("letters", Words.built("cbabca").repeatedAt(), 2);
        Check.due("one inside the other's places", Words.built("baab").repeatedAt(), 1);
        Check.due("1000 without a pair twice: letter 0", largestWithoutAPairTwice().repeatedAt(), 251);
        Check.due("shorter ones before it in the order", Words.built("aabbcbbc").repeatedAt(), 2);
    }

    private static void repeatedAtNone() {
        Check.sentence("14: -1 if there is none");
        for (String word : new String[] {"", "a", "ab", "ba", "zyxwvutsrqponmlkjihgfedcba"}) {
            Check.due(word, Words.built(word).repeatedAt(), -1);
        }
    }

    private static void repeatedAtNotBuilt() {
        Check.sentence("14: or the text is not built");
        for (String word : WORDS) {
            TextEnds ends = Words.fed(word);
            Check.due(word, ends.repeatedAt(), -1);
            ends.build();
            ends.feed(0);
            Check.due(word + " and one more", ends.repeatedAt(), -1);
            ends.build();
            ends.clear();
            Check.due(word + " cleared", ends.repeatedAt(), -1);
        }
    }

    private static void differentPartsOfOneLetterOrMore() {
        Check.sentence("15: How many different parts (of one letter or more) the text has");
        Check.due("nothing", Words.built("").different(), 0);
        Check.due("one letter", Words.built("a").different(), 1);
        Check.due("two alike", Words.built("aa").different(), 2);
        Check.due("two unlike", Words.built("ab").different(), 3);
        Check.due("banana", Words.built("banana").different(), 15);
    }

    private static void differentOfTheLargest() {
        Check.sentence("15: How many different parts .. the text has [a full one]");
        Check.due("1000 alike", largest(0).different(), MOST_LETTERS);
        Check.due("1000 without a pair twice", largestWithoutAPairTwice().different(), 256 + 999 * 1000 / 2);
    }

    private static void differentNotBuilt() {
        Check.sentence("15: -1 if it is not built");
        for (String word : WORDS) {
            TextEnds ends = Words.fed(word);
            Check.due(word, ends.different(), -1);
            ends.build();
            ends.feed(0);
            Check.due(word + " and one more", ends.different(), -1);
            ends.build();
            ends.clear();
            Check.due(word + " cleared", ends.different(), -1);
        }
    }
}
