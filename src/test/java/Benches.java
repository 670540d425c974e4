/** Benches made ready for tests, and the numbers that tests go by. */
class Benches {
    static final int NONE = -1, BAD = -3, FULL = -5, SPENT = -6, NOTHING = -11, INDEX = -13, SIZE = -14;
    static final int LOW = Integer.MIN_VALUE, HIGH = Integer.MAX_VALUE;

    static int v(int vowel, int stress) {
        return Dues.vowel(vowel, stress);
    }

    static int[] row(int... bytes) {
        return bytes;
    }

    /** A bench with so many words in heap 0, none of them said or written. */
    static VerseBench words(int many) {
        VerseBench x = new VerseBench();
        for (int k = 0; k < many; k++) x.word(0);
        return x;
    }

    /** A bench whose word k has one saying, the k-th of these rows. */
    static VerseBench said(int[]... rows) {
        VerseBench x = words(rows.length);
        for (int k = 0; k < rows.length; k++) Dues.say(x, k, rows[k]);
        return x;
    }

    /** A bench with three words, of which the first is written. */
    static VerseBench written(int... bytes) {
        VerseBench x = words(3);
        write(x, 0, bytes);
        return x;
    }

    static void write(VerseBench x, int word, int... bytes) {
        x.writing(word, bytes.length);
        for (int k = 0; k < bytes.length; k++) x.spell(word, k, bytes[k]);
    }

    /** A bench with one line of one syllable a word, of these stresses. */
    static VerseBench stressed(int... stresses) {
        VerseBench x = said(row(v(0, 0)), row(v(0, 1)), row(v(0, 2)));
        Dues.lineOf(x, stresses);
        return x;
    }

    /** Lines 0 .. 5: last words of 0, 2, 4 rhyme, those of 1, 3 too, that of 5 with none; line 6 does not fit. */
    static VerseBench stanza(int places) {
        VerseBench x = said(row(10, v(1, 2), 12), row(10, v(2, 2), 13), row(11, v(1, 2), 12), row(11, v(2, 2), 13),
            row(12, v(1, 2), 12), row(v(3, 2), 14, 14, 14), row(v(1, 2), v(1, 2), 12));
        for (int k = 0; k < 7; k++) Dues.lineOf(x, k);
        Dues.marks(x, 1);
        x.form(places);
        return x;
    }

    static void setAll(VerseBench x, int... lines) {
        for (int i = 0; i < lines.length; i++) x.set(i, lines[i]);
    }

    static void letters(VerseBench x, int... letters) {
        for (int i = 0; i < letters.length; i++) x.place(i, letters[i], NONE);
    }
}
