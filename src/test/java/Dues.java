/** Counts answers that are not the ones that are due, and tells of each. */
final class Dues {
    private final String test;
    private int asked = 0;
    private int wrong = 0;

    Dues(String test) {
        this.test = test;
    }

    void due(String call, long want, long got) {
        asked++;
        if (want == got) return;
        wrong++;
        if (wrong <= 50) System.out.println(test + ": " + call + " answered " + got + ", due is " + want);
    }

    void holds(String what, boolean holds) {
        due(what, 1, holds ? 1 : 0);
    }

    boolean isAnyWrong() {
        return wrong > 0;
    }

    void end() {
        System.out.println(test + ": " + asked + " answers, " + wrong + " not as due");
        if (wrong > 0) System.exit(1);
    }

    /** A vowel with its stress, as a saying tells it. */
    static int vowel(int v, int stress) {
        return 40 * stress + v;
    }

    static long first(int... bytes) {
        return packed(bytes, 0);
    }

    static long second(int... bytes) {
        return packed(bytes, 8);
    }

    static int say(VerseBench x, int word, int... bytes) {
        return x.saying(word, bytes.length, first(bytes), second(bytes));
    }

    static long digits(int base, int... digits) {
        long all = 0;
        for (int k = digits.length - 1; k >= 0; k--) all = all * base + digits[k];
        return all;
    }

    static int marks(VerseBench x, int... marks) {
        return x.meter(marks.length, (int) digits(3, marks));
    }

    static int lineOf(VerseBench x, int... words) {
        return x.line(words.length, digits(24, words));
    }

    private static long packed(int[] bytes, int from) {
        long all = 0;
        for (int k = from; k < bytes.length && k < from + 8; k++) all |= (bytes[k] & 255L) << (8 * (k - from));
        return all;
    }
}
