import java.util.stream.IntStream;

/** Numbers that stand in no range of the document. */
final class Numbers {
    private Numbers() {
    }

    /** Right beside least .. most, far off, and such as would stand in it if only their low bits counted. */
    static int[] outside(int least, int most) {
        return IntStream.of(least - 1, least - 2, most + 1, most + 2,
                        least - 256, least + 256, most - 256, most + 256,
                        least - 65536, least + 65536, most - 65536, most + 65536,
                        Integer.MIN_VALUE, Integer.MIN_VALUE + 1, Integer.MIN_VALUE + least, Integer.MIN_VALUE + most,
                        -1, Integer.MAX_VALUE, Integer.MAX_VALUE - 1)
                .filter(number -> number < least || number > most)
                .distinct()
                .toArray();
    }

    /** So many letters that are all alike. */
    static int[] alike(int letter, int length) {
        return IntStream.range(0, length).map(i -> letter).toArray();
    }
}
