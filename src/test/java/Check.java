/** What the tests of the project share: it prints each wrong answer and ends with exit code 1. */
final class Check {
    static final long BEYOND = -1000000001L;
    static final long FULL = -1000000002L;
    static final long KIND = -1000000003L;
    static final long NONE = -1000000004L;
    static final long STATE = -1000000005L;
    static final long MISSING = -1000000006L;
    static final long SIZE = -1000000007L;

    private static int wrong = 0;

    private Check() {
    }

    static void due(String what, long got, long want) {
        if (got != want) {
            wrong++;
            System.out.println(what + ": answered " + got + ", due is " + want);
        }
    }

    /** Feeds a text, a byte a call. */
    static void feedText(ChairDance x, String text) {
        for (int i = 0; i < text.length(); i++) {
            due("feeding " + text, x.feed(text.charAt(i), 1), i + 1);
        }
    }

    static long hallOf(ChairDance x, String text) {
        feedText(x, text);
        return x.hall();
    }

    static void end() {
        if (wrong != 0) {
            System.out.println(wrong + " answers are not as due");
            System.exit(1);
        }
        System.out.println("all answers are as due");
    }
}
