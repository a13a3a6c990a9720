/** Feeds sixteen letters a call: a full text must not use up the 512 calls that an object is promised for. */
final class Packed {
    private Packed() {
    }

    static int feed(TextEnds ends, int[] letters) {
        int came = 0;
        for (int from = 0; from < letters.length; from += 16) {
            int n = Math.min(16, letters.length - from);
            came += ends.feedAll(four(letters, from), four(letters, from + 4), four(letters, from + 8),
                    four(letters, from + 12), n);
        }
        return came;
    }

    private static int four(int[] letters, int from) {
        int packed = 0;
        for (int i = from; i < from + 4; i++) {
            packed = packed << 8 | (i < letters.length ? letters[i] : 0);
        }
        return packed;
    }
}
