/** Counts and prints the answers that are not as due. */
final class Check {
    private static final int MOST_PRINTED = 40;
    private static String sentence = "";
    private static int asked = 0;
    private static int wrong = 0;

    private Check() {
    }

    /** What follows is due by these words of the document; in brackets stands which case of them is looked at. */
    static void sentence(String words) {
        sentence = words + ": ";
    }

    static void due(String call, long got, long want) {
        count(call, got == want, got, want);
    }

    static void due(String call, boolean got, boolean want) {
        count(call, got == want, got, want);
    }

    static void due(String call, String got, String want) {
        count(call, got.equals(want), got, want);
    }

    private static void count(String call, boolean asDue, Object got, Object want) {
        asked++;
        if (!asDue) {
            wrong++;
            if (wrong <= MOST_PRINTED) {
                System.out.println(sentence + call + " answered " + got + ", due is " + want);
            }
        }
    }

    static void end() {
        System.out.println(asked + " answers, " + wrong + " not as due");
        if (wrong != 0 || asked == 0) {
            System.exit(1);
        }
    }
}
