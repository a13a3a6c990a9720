import java.util.Random;

/** Holds TextEnds against the plain form of the document: every small text, long texts of many kinds, mixed calls. */
public final class AgainstPlainTest {
    private static final int[] EDGES = {Integer.MIN_VALUE, -2, -1, 0, 1, 255, 256, 999, 1000, Integer.MAX_VALUE};
    // Four calls each, beside those that feed and build: fewer than the 512 an object is promised for.
    private static final int ASKED_OF_ONE_OBJECT = 100;
    // Each may be two calls.
    private static final int MIXED_CALLS = 512 / 2;

    public static void main(String[] args) {
        everySmallText(1, 12);
        everySmallText(2, 11);
        everySmallText(3, 7);
        everySmallText(4, 5);
        longTexts();
        Random random = new Random(20261115);
        for (int run = 0; run < 1500; run++) {
            mixedCalls(random, run);
        }
        Check.end();
    }

    private static void everySmallText(int sigma, int most) {
        for (int length = 0; length <= most; length++) {
            int texts = (int) Math.round(Math.pow(sigma, length));
            for (int code = 0; code < texts; code++) {
                int[] letters = new int[length];
                int rest = code;
                for (int i = 0; i < length; i++) {
                    letters[i] = rest % sigma;
                    rest /= sigma;
                }
                wholeOrder("text " + code + " of " + length, letters, sigma, most);
            }
        }
    }

    private static void longTexts() {
        int[] sigmas = {1, 2, 3, 4, 26, 255, 256};
        int[] lengths = {1, 2, 3, 4, 63, 64, 511, 512, 513, 998, 999, 1000};
        for (int sigma : sigmas) {
            for (int length : lengths) {
                for (int kind = 0; kind < 8; kind++) {
                    String name = "kind " + kind + ", sigma " + sigma + ", length " + length;
                    wholeOrder(name, longText(kind, sigma, length), sigma, length);
                }
            }
        }
    }

    private static int[] longText(int kind, int sigma, int length) {
        int[] letters = new int[length];
        Random random = new Random(31L * kind + sigma);
        String fibonacci = "0";
        for (String former = "1"; fibonacci.length() < length;) {
            String longer = fibonacci + former;
            former = fibonacci;
            fibonacci = longer;
        }
        for (int i = 0; i < length; i++) {
            int letter;
            switch (kind) {
                case 0: letter = random.nextInt(sigma); break;
                case 1: letter = sigma - 1; break;
                case 2: letter = i; break;
                case 3: letter = length - i; break;
                case 4: letter = fibonacci.charAt(i) - '0'; break;
                case 5: letter = Integer.bitCount(i); break;
                case 6: letter = Integer.numberOfTrailingZeros(i + 1); break;
                default: letter = i < length / 2 ? random.nextInt(sigma) : letters[i - length / 2]; break;
            }
            letters[i] = letter % sigma;
        }
        return letters;
    }

    private static void wholeOrder(String name, int[] letters, int sigma, int room) {
        PlainTextEnds plain = new PlainTextEnds(room, sigma, 8);
        for (int letter : letters) {
            plain.feed(letter);
        }
        plain.build();
        TextEnds ends = built(name, letters, sigma, room);
        for (int i = -1; i <= letters.length; i++) {
            if (i % ASKED_OF_ONE_OBJECT == 0) {
                ends = built(name, letters, sigma, room);
            }
            Check.due(name + " sa " + i, ends.sa(i), plain.sa(i));
            Check.due(name + " lcp " + i, ends.lcp(i), plain.lcp(i));
            Check.due(name + " rank " + i, ends.rank(i), plain.rank(i));
            int other = letters.length / 2;
            Check.due(name + " common " + i, ends.common(i, other), plain.common(i, other));
        }
        Check.due(name + " repeated", ends.repeated(), plain.repeated());
        Check.due(name + " repeatedAt", ends.repeatedAt(), plain.repeatedAt());
        Check.due(name + " different", ends.different(), plain.different());
    }

    private static TextEnds built(String name, int[] letters, int sigma, int room) {
        TextEnds ends = new TextEnds(room, sigma, 8);
        Check.due(name + " feedAll", Packed.feed(ends, letters), letters.length);
        Check.due(name + " build", ends.build(), letters.length);
        return ends;
    }

    private static void mixedCalls(Random random, int run) {
        int room = random.nextInt(6) == 0 ? edge(random) : random.nextInt(60);
        int sigma = random.nextInt(6) == 0 ? edge(random) : 1 + random.nextInt(4);
        int patternRoom = random.nextInt(6) == 0 ? edge(random) : random.nextInt(6);
        TextEnds ends = new TextEnds(room, sigma, patternRoom);
        PlainTextEnds plain = new PlainTextEnds(room, sigma, patternRoom);
        for (int call = 0; call < MIXED_CALLS; call++) {
            String name = "run " + run + ", call " + call + ": ";
            int which = random.nextInt(100);
            if (which < 40) {
                changingCall(name, random, ends, plain);
            } else {
                askingCall(name, random, ends, plain);
            }
        }
    }

    private static void changingCall(String name, Random random, TextEnds ends, PlainTextEnds plain) {
        int which = random.nextInt(40);
        int letter = number(random, plain.count(4));
        if (which < 6) {
            Check.due(name + "feed " + letter, ends.feed(letter), plain.feed(letter));
        } else if (which < 12) {
            int a = packed(random, plain.count(4));
            int b = packed(random, plain.count(4));
            int c = packed(random, plain.count(4));
            int d = packed(random, plain.count(4));
            int n = random.nextInt(8) == 0 ? edge(random) : random.nextInt(19);
            Check.due(name + "feedAll " + n, ends.feedAll(a, b, c, d, n), plain.feedAll(a, b, c, d, n));
        } else if (which < 28) {
            Check.due(name + "build", ends.build(), plain.build());
        } else if (which < 36) {
            Check.due(name + "patFeed " + letter, ends.patFeed(letter), plain.patFeed(letter));
        } else if (which < 39) {
            ends.patClear();
            plain.patClear();
        } else {
            ends.clear();
            plain.clear();
        }
    }

    private static void askingCall(String name, Random random, TextEnds ends, PlainTextEnds plain) {
        int i = number(random, plain.count(0));
        int j = number(random, plain.count(0));
        switch (random.nextInt(11)) {
            case 0: Check.due(name + "sa " + i, ends.sa(i), plain.sa(i)); break;
            case 1: Check.due(name + "lcp " + i, ends.lcp(i), plain.lcp(i)); break;
            case 2: Check.due(name + "rank " + i, ends.rank(i), plain.rank(i)); break;
            case 3: Check.due(name + "common " + i + " " + j, ends.common(i, j), plain.common(i, j)); break;
            case 4:
            case 5: Check.due(name + "search", ends.search(), plain.search()); break;
            case 6: Check.due(name + "hit " + i, ends.hit(i), plain.hit(i)); break;
            case 7: Check.due(name + "hit 0", ends.hit(0), plain.hit(0)); break;
            case 8: Check.due(name + "repeated", ends.repeated(), plain.repeated()); break;
            case 9: Check.due(name + "repeatedAt", ends.repeatedAt(), plain.repeatedAt()); break;
            default: Check.due(name + "different", ends.different(), plain.different()); break;
        }
        int what = random.nextInt(8) == 0 ? edge(random) : random.nextInt(8) - 1;
        Check.due(name + "count " + what, ends.count(what), plain.count(what));
    }

    private static int edge(Random random) {
        return EDGES[random.nextInt(EDGES.length)];
    }

    // Mostly below the bound, now and then just beside it or far off.
    private static int number(Random random, int bound) {
        return random.nextInt(12) == 0 ? edge(random) : random.nextInt(bound + 2) - random.nextInt(2);
    }

    private static int packed(Random random, int sigma) {
        int four = 0;
        for (int i = 0; i < 4; i++) {
            int letter = random.nextInt(30) == 0 ? random.nextInt(256) : random.nextInt(sigma);
            four = four << 8 | letter;
        }
        return four;
    }
}
