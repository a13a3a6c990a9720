import java.util.Arrays;

/** One method for each promise of the document: ordinary inputs, the edges that it names, wrong inputs. */
public final class PromisesTest {
    private static final int FEW = Integer.MIN_VALUE;
    private static final int MANY = Integer.MAX_VALUE;

    public static void main(String[] args) {
        promise1NewObject();
        promise2Feed();
        promise3FeedAll();
        promise3FeedAllLeavesTheBuiltTextAlone();
        promise4Build();
        promise5Sa();
        promise6Lcp();
        promise7Rank();
        promise8Common();
        promise9PatFeed();
        promise10PatClear();
        promise11Search();
        promise12Hit();
        promise12HitAfterChanges();
        promise13Repeated();
        promise14RepeatedAt();
        promise15Different();
        promise16Count();
        promise17Clear();
        Check.end();
    }

    private static void promise1NewObject() {
        TextEnds ends = new TextEnds(40, 26, 8);
        Check.due("1: letters", ends.count(0), 0);
        Check.due("1: letters of the pattern", ends.count(1), 0);
        Check.due("1: built", ends.count(2), 0);
        Check.due("1: sa", ends.sa(0), -1);
        Check.due("1: search", ends.search(), -1);
        roomsDue(40, 26, 8, 40, 26, 8);
        roomsDue(1, 1, 1, 1, 1, 1);
        roomsDue(0, 0, 0, 1, 1, 1);
        roomsDue(FEW, FEW, FEW, 1, 1, 1);
        roomsDue(1000, 256, 64, 1000, 256, 64);
        roomsDue(1001, 257, 65, 1000, 256, 64);
        roomsDue(MANY, MANY, MANY, 1000, 256, 64);
    }

    private static void roomsDue(int maxText, int sigma, int maxPattern, int text, int letters, int pattern) {
        TextEnds ends = new TextEnds(maxText, sigma, maxPattern);
        Check.due("1: room of " + maxText, ends.count(3), text);
        Check.due("1: sigma of " + sigma, ends.count(4), letters);
        Check.due("1: room for the pattern of " + maxPattern, ends.count(5), pattern);
        int[] full = new int[text];
        Arrays.fill(full, letters - 1);
        Check.due("1: letters in the room", Packed.feed(ends, full), text);
        Check.due("1: feed beyond the room", ends.feed(0), false);
        for (int i = 0; i < pattern; i++) {
            Check.due("1: patFeed in the room", ends.patFeed(letters - 1), true);
        }
        Check.due("1: patFeed beyond the room", ends.patFeed(0), false);
    }

    private static void promise2Feed() {
        TextEnds ends = new TextEnds(3, 5, 8);
        Check.due("2: feed(4)", ends.feed(4), true);
        Check.due("2: feed(0)", ends.feed(0), true);
        Check.due("2: letters", ends.count(0), 2);
        ends.build();
        ends.search();
        int[] none = {5, -1, 256, FEW, MANY};
        for (int letter : none) {
            Check.due("2: feed of none", ends.feed(letter), false);
        }
        Check.due("2: letters as before", ends.count(0), 2);
        Check.due("2: built as before", ends.count(2), 1);
        Check.due("2: order as before", ends.sa(0), 1);
        Check.due("2: hits as before", ends.hit(1), 0);
        Check.due("2: feed(0) again", ends.feed(0), true);
        Check.due("2: built no more", ends.count(2), 0);
        Check.due("2: no order", ends.sa(0), -1);
        Check.due("2: build", ends.build(), 3);
        Check.due("2: feed without room", ends.feed(0), false);
        Check.due("2: still built", ends.count(2), 1);
        Check.due("2: still in order", ends.sa(0), 2);
    }

    private static void promise3FeedAll() {
        TextEnds ends = new TextEnds(1000, 256, 8);
        Check.due("3: all", ends.feedAll(0x00010203, 0x7f80ff04, 0xfffefdfc, 0x05060708, 16), 16);
        int[] due = {0, 1, 2, 3, 0x7f, 0x80, 0xff, 4, 0xff, 0xfe, 0xfd, 0xfc, 5, 6, 7, 8};
        ends.build();
        for (int i = 0; i < due.length; i++) {
            ends.patClear();
            ends.patFeed(due[i]);
            int last = ends.search() - 1;
            boolean there = false;
            for (int k = 0; k <= last; k++) {
                there |= ends.hit(k) == i;
            }
            Check.due("3: letter " + i, there, true);
        }
        for (int n = 1; n <= 16; n++) {
            TextEnds part = new TextEnds(40, 2, 8);
            Check.due("3: first " + n, part.feedAll(0, 0, 0, 0, n), n);
            Check.due("3: letters of first " + n, part.count(0), n);
        }
        int[] wrong = {0, -1, 17, FEW, MANY};
        for (int n : wrong) {
            TextEnds part = new TextEnds(40, 2, 8);
            Check.due("3: first " + n, part.feedAll(0, 0, 0, 0, n), 0);
            Check.due("3: letters of first " + n, part.count(0), 0);
        }
    }

    private static void promise3FeedAllLeavesTheBuiltTextAlone() {
        TextEnds ends = new TextEnds(6, 4, 8);
        Check.due("3: up to the one that is none", ends.feedAll(0x01020304, 0x01010101, 0, 0, 16), 3);
        Check.due("3: letters that came", ends.count(0), 3);
        ends.build();
        Check.due("3: none behind a wrong first", ends.feedAll(0x04010101, 0, 0, 0, 4), 0);
        Check.due("3: none for a wrong n", ends.feedAll(0, 0, 0, 0, 17), 0);
        Check.due("3: still built", ends.count(2), 1);
        Check.due("3: up to the room", ends.feedAll(0x03030303, 0, 0, 0, 8), 3);
        Check.due("3: not built", ends.count(2), 0);
        Check.due("3: letters", ends.count(0), 6);
        ends.build();
        Check.due("3: no room", ends.feedAll(0, 0, 0, 0, 1), 0);
        Check.due("3: still built when full", ends.count(2), 1);
    }

    private static void promise4Build() {
        TextEnds ends = new TextEnds(40, 26, 8);
        Check.due("4: build of nothing", ends.build(), 0);
        Check.due("4: built", ends.count(2), 1);
        Check.due("4: search of nothing", ends.search(), 0);
        ends.feed(1);
        Check.due("4: not built", ends.count(2), 0);
        Check.due("4: build of one", ends.build(), 1);
        Check.due("4: build again", ends.build(), 1);
        Check.due("4: sa", ends.sa(0), 0);
        ends.feed(0);
        Check.due("4: build of two", ends.build(), 2);
        Check.due("4: new order", ends.sa(0), 1);
    }

    private static void promise5Sa() {
        TextEnds ends = Words.fed("mississippi");
        Check.due("5: not built", ends.sa(0), -1);
        ends.build();
        int[] due = {10, 7, 4, 1, 0, 9, 8, 6, 3, 5, 2};
        for (int i = 0; i < due.length; i++) {
            Check.due("5: sa(" + i + ")", ends.sa(i), due[i]);
        }
        int[] wrong = {-1, 11, 999, 1000, FEW, MANY};
        for (int i : wrong) {
            Check.due("5: sa(" + i + ")", ends.sa(i), -1);
        }
        ends.feed(0);
        Check.due("5: not built any more", ends.sa(0), -1);
        Check.due("5: empty text", Words.built("").sa(0), -1);
    }

    private static void promise6Lcp() {
        TextEnds ends = Words.fed("mississippi");
        Check.due("6: not built", ends.lcp(1), -1);
        ends.build();
        int[] due = {-1, 1, 1, 4, 0, 0, 1, 0, 2, 1, 3};
        for (int i = 0; i < due.length; i++) {
            Check.due("6: lcp(" + i + ")", ends.lcp(i), due[i]);
        }
        int[] wrong = {-1, 11, 999, 1000, FEW, MANY};
        for (int i : wrong) {
            Check.due("6: lcp(" + i + ")", ends.lcp(i), -1);
        }
        ends.feed(0);
        Check.due("6: not built any more", ends.lcp(1), -1);
        Check.due("6: one letter", Words.built("a").lcp(1), -1);
        Check.due("6: one letter, place 0", Words.built("a").lcp(0), -1);
    }

    private static void promise7Rank() {
        TextEnds ends = Words.fed("mississippi");
        Check.due("7: not built", ends.rank(0), -1);
        ends.build();
        int[] due = {4, 3, 10, 8, 2, 9, 7, 1, 6, 5, 0};
        for (int place = 0; place < due.length; place++) {
            Check.due("7: rank(" + place + ")", ends.rank(place), due[place]);
        }
        int[] wrong = {-1, 11, 999, 1000, FEW, MANY};
        for (int place : wrong) {
            Check.due("7: rank(" + place + ")", ends.rank(place), -1);
        }
        ends.feed(0);
        Check.due("7: not built any more", ends.rank(0), -1);
    }

    private static void promise8Common() {
        TextEnds ends = Words.fed("mississippi");
        Check.due("8: not built", ends.common(0, 0), -1);
        ends.build();
        Check.due("8: common(1, 4)", ends.common(1, 4), 4);
        Check.due("8: common(4, 1)", ends.common(4, 1), 4);
        Check.due("8: common(10, 1)", ends.common(10, 1), 1);
        Check.due("8: common(2, 5)", ends.common(2, 5), 3);
        Check.due("8: common(0, 1)", ends.common(0, 1), 0);
        Check.due("8: an end with itself", ends.common(3, 3), 8);
        Check.due("8: the whole with itself", ends.common(0, 0), 11);
        int[] wrong = {-1, 11, 999, 1000, FEW, MANY};
        for (int place : wrong) {
            Check.due("8: common(" + place + ", 0)", ends.common(place, 0), -1);
            Check.due("8: common(0, " + place + ")", ends.common(0, place), -1);
            Check.due("8: common(" + place + ", itself)", ends.common(place, place), -1);
        }
        ends.feed(0);
        Check.due("8: not built any more", ends.common(0, 0), -1);
    }

    private static void promise9PatFeed() {
        TextEnds ends = new TextEnds(9, 3, 2);
        int[] none = {3, -1, FEW, MANY};
        for (int letter : none) {
            Check.due("9: patFeed of none", ends.patFeed(letter), false);
        }
        Check.due("9: empty as before", ends.count(1), 0);
        Check.due("9: patFeed(2)", ends.patFeed(2), true);
        Check.due("9: patFeed(0)", ends.patFeed(0), true);
        Check.due("9: no room", ends.patFeed(0), false);
        Check.due("9: letters of the pattern", ends.count(1), 2);
        Check.due("9: the text has none of them", ends.count(0), 0);
        ends.feedAll(0x02000200, 0, 0, 0, 4);
        ends.build();
        Check.due("9: search", ends.search(), 2);
        ends.patClear();
        ends.patFeed(1);
        Check.due("9: a built text stays built", ends.count(2), 1);
        Check.due("9: search of another", ends.search(), 0);
    }

    private static void promise10PatClear() {
        TextEnds ends = Words.built("abab");
        ends.patClear();
        Check.due("10: empty", ends.count(1), 0);
        Words.patFeed(ends, "ba");
        Check.due("10: search", ends.search(), 1);
        ends.patClear();
        Check.due("10: empty again", ends.count(1), 0);
        Check.due("10: the text is as it was", ends.count(0), 4);
        Check.due("10: and built", ends.count(2), 1);
        Check.due("10: search of the empty one", ends.search(), 4);
        Words.patFeed(ends, "a");
        Check.due("10: search of a new one", ends.search(), 2);
    }

    private static void promise11Search() {
        TextEnds ends = Words.fed("mississippi");
        Check.due("11: not built", ends.search(), -1);
        ends.build();
        Check.due("11: the empty one", ends.search(), 11);
        Check.due("11: the empty one in nothing", Words.found("", ""), 0);
        Check.due("11: a letter in nothing", Words.found("", "a"), 0);
        Check.due("11: i", Words.found("mississippi", "i"), 4);
        Check.due("11: ss", Words.found("mississippi", "ss"), 2);
        Check.due("11: issi, over itself", Words.found("mississippi", "issi"), 2);
        Check.due("11: the whole", Words.found("mississippi", "mississippi"), 1);
        Check.due("11: longer than the text", Words.found("aaa", "aaaa"), 0);
        Check.due("11: before all", Words.found("mississippi", "a"), 0);
        Check.due("11: behind all", Words.found("mississippi", "z"), 0);
        Check.due("11: between", Words.found("mississippi", "n"), 0);
        Check.due("11: unlike at its last letter", Words.found("mississippi", "issp"), 0);
        Check.due("11: beyond the last letter", Words.found("mississippi", "ppii"), 0);
        Words.patFeed(ends, "pp");
        ends.feed(0);
        Check.due("11: not built any more", ends.search(), -1);
        ends.build();
        Check.due("11: the pattern is kept", ends.search(), 1);
    }

    private static void promise12Hit() {
        TextEnds ends = Words.built("mississippi");
        Check.due("12: before any search", ends.hit(0), -1);
        Check.due("12: search of the empty one", ends.search(), 11);
        Check.due("12: its first", ends.hit(0), 10);
        Check.due("12: its last", ends.hit(10), 2);
        Check.due("12: behind its last", ends.hit(11), -1);
        Words.patFeed(ends, "i");
        Check.due("12: search of i", ends.search(), 4);
        int[] due = {10, 7, 4, 1};
        for (int k = 0; k < due.length; k++) {
            Check.due("12: hit(" + k + ")", ends.hit(k), due[k]);
        }
        int[] wrong = {-1, 4, 11, 1000, FEW, MANY};
        for (int k : wrong) {
            Check.due("12: hit(" + k + ")", ends.hit(k), -1);
        }
        Words.patFeed(ends, "z");
        Check.due("12: search of iz", ends.search(), 0);
        Check.due("12: none", ends.hit(0), -1);
    }

    private static void promise12HitAfterChanges() {
        TextEnds ends = Words.built("abab");
        Words.patFeed(ends, "b");
        ends.search();
        Check.due("12: hit", ends.hit(0), 3);
        Check.due("12: refused letter of the pattern", ends.patFeed(26), false);
        Check.due("12: refused letter", ends.feed(-1), false);
        Check.due("12: refused letters", ends.feedAll(-1, -1, -1, -1, 16), 0);
        Check.due("12: a built text built again", ends.build(), 4);
        Check.due("12: no change", ends.hit(0), 3);
        ends.patFeed(0);
        Check.due("12: pattern changed", ends.hit(0), -1);
        ends.search();
        Check.due("12: searched again", ends.hit(0), 1);
        ends.patClear();
        Check.due("12: pattern cleared", ends.hit(0), -1);
        Words.patFeed(ends, "ba");
        Check.due("12: the same pattern, not searched", ends.hit(0), -1);
        ends.search();
        ends.feed(1);
        Check.due("12: text changed", ends.hit(0), -1);
        Check.due("12: search of a text not built", ends.search(), -1);
        Check.due("12: found nothing", ends.hit(0), -1);
        ends.build();
        Check.due("12: built, not searched", ends.hit(0), -1);
        ends.search();
        Check.due("12: built and searched", ends.hit(0), 1);
        ends.clear();
        Check.due("12: cleared", ends.hit(0), -1);
        TextEnds empty = Words.built("abab");
        empty.search();
        empty.patClear();
        Check.due("12: patClear() of an empty pattern", empty.hit(0), -1);
    }

    private static void promise13Repeated() {
        Check.due("13: not built", Words.fed("abab").repeated(), -1);
        Check.due("13: nothing", Words.built("").repeated(), 0);
        Check.due("13: one letter", Words.built("a").repeated(), 0);
        Check.due("13: no letter twice", Words.built("abc").repeated(), 0);
        Check.due("13: over itself", Words.built("aaaa").repeated(), 3);
        Check.due("13: mississippi", Words.built("mississippi").repeated(), 4);
        Check.due("13: abcxabc", Words.built("abcxabc").repeated(), 3);
        TextEnds ends = Words.built("abab");
        Check.due("13: abab", ends.repeated(), 2);
        ends.feed(0);
        Check.due("13: not built any more", ends.repeated(), -1);
    }

    private static void promise14RepeatedAt() {
        Check.due("14: not built", Words.fed("abab").repeatedAt(), -1);
        Check.due("14: nothing", Words.built("").repeatedAt(), -1);
        Check.due("14: one letter", Words.built("a").repeatedAt(), -1);
        Check.due("14: no letter twice", Words.built("abc").repeatedAt(), -1);
        Check.due("14: over itself", Words.built("aaaa").repeatedAt(), 0);
        Check.due("14: mississippi", Words.built("mississippi").repeatedAt(), 1);
        Check.due("14: of two the first in the order", Words.built("xyxyzabcab").repeatedAt(), 5);
        Check.due("14: least of three places", Words.built("zabyabxab").repeatedAt(), 1);
        Check.due("14: least place not first of its group", Words.built("cabdabbab").repeatedAt(), 1);
        Check.due("14: a later group does not count", Words.built("bcaxbcyaxzax").repeatedAt(), 2);
        TextEnds ends = Words.built("abab");
        Check.due("14: abab", ends.repeatedAt(), 0);
        ends.feed(0);
        Check.due("14: not built any more", ends.repeatedAt(), -1);
    }

    private static void promise15Different() {
        Check.due("15: not built", Words.fed("abab").different(), -1);
        Check.due("15: nothing", Words.built("").different(), 0);
        Check.due("15: one letter", Words.built("a").different(), 1);
        Check.due("15: abc", Words.built("abc").different(), 6);
        Check.due("15: aaaa", Words.built("aaaa").different(), 4);
        Check.due("15: abab", Words.built("abab").different(), 7);
        Check.due("15: mississippi", Words.built("mississippi").different(), 53);
        TextEnds ends = Words.built("abab");
        ends.feed(0);
        Check.due("15: not built any more", ends.different(), -1);
    }

    private static void promise16Count() {
        TextEnds ends = new TextEnds(30, 20, 10);
        countsDue(ends, 0, 0, 0);
        ends.feedAll(0, 0, 0, 0, 7);
        ends.patFeed(1);
        ends.patFeed(2);
        countsDue(ends, 7, 2, 0);
        ends.build();
        countsDue(ends, 7, 2, 1);
        ends.feed(3);
        countsDue(ends, 8, 2, 0);
        int[] wrong = {-1, 6, FEW, MANY};
        for (int what : wrong) {
            Check.due("16: count(" + what + ")", ends.count(what), -1);
        }
    }

    private static void countsDue(TextEnds ends, int letters, int ofPattern, int built) {
        int[] due = {letters, ofPattern, built, 30, 20, 10};
        for (int what = 0; what < due.length; what++) {
            Check.due("16: count(" + what + ")", ends.count(what), due[what]);
        }
    }

    private static void promise17Clear() {
        TextEnds ends = new TextEnds(30, 20, 10);
        ends.feedAll(0x01020301, 0x02030102, 0, 0, 8);
        ends.patFeed(1);
        ends.build();
        ends.search();
        ends.clear();
        countsDue(ends, 0, 0, 0);
        Check.due("17: sa", ends.sa(0), -1);
        Check.due("17: hit", ends.hit(0), -1);
        Check.due("17: search", ends.search(), -1);
        Check.due("17: build", ends.build(), 0);
        Check.due("17: different", ends.different(), 0);
        ends.feedAll(0x05040000, 0, 0, 0, 2);
        Check.due("17: build of a new text", ends.build(), 2);
        Check.due("17: its order", ends.sa(0), 1);
        Check.due("17: search of the empty pattern", ends.search(), 2);
    }
}
