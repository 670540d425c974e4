import java.util.function.Supplier;

/** The edges of part 2 of the document's Terms, and of promises 9 to 14: rhymes, costs, broken rhymes. */
final class EdgesOfRhymes extends Benches {
    private static final int RHYME = 1, RICH = 2, VOWELS = 4, ENDS = 8, NEAR = 16, EYE = 32, PERFECT = 64;

    private final Sentences s;

    EdgesOfRhymes(Sentences s) {
        this.s = s;
    }

    void run() {
        kindsOfSayings();
        rhymesAndRichOnes();
        vowelsAndEnds();
        nearOnes();
        eyes();
        perfectOnes();
        costs();
        twoWords();
        brokenOnes();
        stressesOfBrokenOnes();
        near();
        rhyme();
        how();
        cost();
        rhymes();
        broken();
    }

    /** The kinds by which words 0 and 1 rhyme, a bit for each. */
    private int kinds(VerseBench x) {
        int bits = 0;
        for (int kind = 0; kind <= 6; kind++) {
            int answer = x.rhyme(0, 1, kind);
            s.due("the other way round", answer, x.rhyme(1, 0, kind));
            if (answer == 1) bits |= 1 << kind;
        }
        return bits;
    }

    private void dueKinds(String what, int want, int[] one, int[] other) {
        s.due(what, want, kinds(said(one, other)));
    }

    private static VerseBench twoWritten(int[] one, int[] other) {
        VerseBench x = words(2);
        write(x, 0, one);
        write(x, 1, other);
        return x;
    }

    private void kindsOfSayings() {
        s.term(2, "KINDS of RHYMES of two SAYINGS (as they SOUND):", 7, 10);
        VerseBench x = said(row(10, v(1, 2), 12), row(11, v(2, 2), 23));
        s.due("none before", NEAR, kinds(x));
        x.speech(2, 1);
        s.due("the vowel", VOWELS | NEAR, kinds(x));
        x.speech(23, 12);
        s.due("the tail", RHYME | VOWELS | ENDS | NEAR | PERFECT, kinds(x));
        x.speech(11, 10);
        s.due("ahead", RICH | VOWELS | ENDS | NEAR | PERFECT, kinds(x));
        x.speech(12, 39);
        s.due("23 as 12, not as 12 as 39", VOWELS | NEAR, kinds(x));
        for (int one = 0; one <= 1; one++) {
            VerseBench y = said(row(v(1, 2), 10), row(v(1, 2), 11));
            s.due("the cost before", 6, y.cost(one, 1 - one));
            y.speech(11, 15);
            s.due("the cost as they sound", 3, y.cost(one, 1 - one));
            y.speech(10, 15);
            s.due("the cost as both sound", 0, y.cost(one, 1 - one));
            y.near(0);
            s.due("near as they sound", 1, y.rhyme(one, 1 - one, 4));
        }
    }

    private void rhymesAndRichOnes() {
        s.term(2, "0 RHYME: the TAILS are alike in all SOUNDS", 10);
        int all = RHYME | VOWELS | ENDS | NEAR | PERFECT;
        dueKinds("alike", all, row(10, v(1, 2), 12), row(11, v(1, 2), 12));
        dueKinds("the last sound is another", VOWELS | NEAR, row(10, v(1, 2), 12), row(11, v(1, 2), 13));
        dueKinds("the first sound is another", ENDS | NEAR, row(10, v(1, 2), 12), row(11, v(2, 2), 12));
        dueKinds("one is longer", VOWELS | NEAR, row(10, v(1, 2), 12), row(11, v(1, 2), 12, 12));
        dueKinds("twelve sounds and eleven", VOWELS | NEAR, row(v(1, 2), 10, 10, 10, 10, 10, 10, 10, 10, 10, 10, 10), row(v(1, 2), 10, 10, 10, 10, 10, 10, 10, 10, 10, 10));
        s.term(2, "(STRESSES do not matter)", 10);
        for (int stress = 0; stress <= 2; stress++) dueKinds("stress " + stress, all, row(10, v(1, 2), 12), row(11, v(1, stress), 12));
        dueKinds("within the tail", RHYME | VOWELS | NEAR | PERFECT, row(10, v(1, 2), v(2, 1)), row(11, v(1, 1), v(2, 0)));
        s.term(2, ", AHEAD of them is not", 10);
        dueKinds("alike ahead", 0, row(10, v(1, 2), 12), row(10, v(1, 2), 12), RHYME);
        dueKinds("alike further ahead", RHYME, row(10, 11, v(1, 2), 12), row(10, 12, v(1, 2), 12), RHYME);
        s.term(2, "(one none and the other one not: not alike).", 10);
        dueKinds("one none", all, row(v(1, 2), 12), row(10, v(1, 2), 12));
        dueKinds("one none, and sound 0 ahead", all, row(v(1, 2), 12), row(v(0, 0), v(1, 2), 12));
        s.term(2, "1 RICH: alike also AHEAD", 10);
        dueKinds("alike ahead", RICH | VOWELS | ENDS | NEAR | PERFECT, row(10, v(1, 2), 12), row(10, v(1, 2), 12));
        dueKinds("a vowel ahead, of another stress", RICH, row(v(5, 0), v(1, 2), 12), row(v(5, 1), v(1, 2), 12), RHYME | RICH);
        dueKinds("not alike further ahead", RICH, row(11, 10, v(1, 2), 12), row(12, 10, v(1, 2), 12), RHYME | RICH);
        dueKinds("alike ahead, but not the tails", 0, row(10, v(1, 2), 12), row(10, v(1, 2), 13), RHYME | RICH);
        s.term(2, "(both none, too).", 10);
        dueKinds("both none", RICH | VOWELS | NEAR | PERFECT, row(v(1, 2)), row(v(1, 0)));
    }

    private void dueKinds(String what, int want, int[] one, int[] other, int ofThese) {
        s.due(what, want, kinds(said(one, other)) & ofThese);
    }

    private void vowelsAndEnds() {
        s.term(2, "2 VOWELS: the VOWELS of the TAILS are alike, in order.", 10);
        dueKinds("others do not matter", VOWELS, row(v(1, 2), 12, v(2, 0)), row(10, v(1, 2), v(2, 1), 39), VOWELS);
        dueKinds("in another order", 0, row(v(1, 2), v(2, 0)), row(v(2, 2), v(1, 0)), VOWELS);
        dueKinds("one more", 0, row(v(1, 2), v(2, 0)), row(v(1, 2), v(2, 0), v(2, 0)), VOWELS);
        dueKinds("one less", 0, row(v(1, 2), v(2, 0)), row(v(1, 2)), VOWELS);
        dueKinds("the last is another", 0, row(v(1, 2), v(2, 0)), row(v(1, 2), v(3, 0)), VOWELS);
        dueKinds("those ahead of the tails do not matter", VOWELS, row(v(7, 1), v(1, 2)), row(v(8, 0), v(9, 0), v(1, 2)), VOWELS);
        dueKinds("of the tails, not of all", 0, row(v(1, 1), v(2, 2)), row(v(1, 2), v(2, 1)), VOWELS);
        s.term(2, "3 ENDS: all behind the last VOWEL is alike,", 10);
        dueKinds("alike", ENDS, row(v(1, 2), 12, 13), row(v(2, 2), v(3, 0), 12, 13), ENDS);
        dueKinds("one more ahead", 0, row(v(1, 2), 12, 13), row(v(1, 2), 11, 12, 13), ENDS);
        dueKinds("one less", 0, row(v(1, 2), 12, 13), row(v(1, 2), 13), ENDS);
        dueKinds("the first is another", 0, row(v(1, 2), 12, 13), row(v(1, 2), 11, 13), ENDS);
        dueKinds("the last is another", 0, row(v(1, 2), 12, 13), row(v(1, 2), 12, 14), ENDS);
        dueKinds("the last vowel, not the tail's", ENDS, row(v(1, 2), 15, v(2, 0), 12), row(v(1, 2), 16, 17, v(2, 0), 12), ENDS);
        s.term(2, "and there is something.", 10);
        dueKinds("nothing, both", 0, row(v(1, 2)), row(v(2, 2)), ENDS);
        dueKinds("nothing, alike in all else", 0, row(10, v(1, 2)), row(10, v(1, 2)), ENDS);
        dueKinds("nothing, and something", 0, row(v(1, 2)), row(v(1, 2), 12), ENDS);
        dueKinds("one sound", ENDS, row(v(1, 2), 39), row(v(2, 2), 39), ENDS);
        dueKinds("eleven", ENDS, row(v(1, 2), 12, 12, 12, 12, 12, 12, 12, 12, 12, 12, 13), row(v(2, 2), 12, 12, 12, 12, 12, 12, 12, 12, 12, 12, 13), ENDS);
    }

    private void nearOnes() {
        s.term(2, "4 NEAR: the COST of the TAILS is C at most", 9, 10);
        VerseBench x = said(row(10, v(1, 2), 12), row(v(2, 2), 13), row(11, v(1, 2), 12));
        s.due("the cost", 9, x.cost(0, 1));
        x.near(9);
        s.due("at most", 1, x.rhyme(0, 1, 4));
        x.near(8);
        s.due("one more", 0, x.rhyme(0, 1, 4));
        x.near(0);
        s.due("whatever is ahead of the tails", 1, x.rhyme(0, 2, 4));
        s.term(2, "(C 0 .. 100, 10 at first).", 9, 10);
        s.due("at first", 10, new VerseBench().near(5));
        s.due("10 of cost at first", 1, said(row(v(1, 2), 10, 11), row(v(1, 2))).rhyme(0, 1, 4));
        s.due("11 of cost at first", 0, said(row(v(1, 2), 10, 11), row(v(1, 2), v(2, 0))).rhyme(0, 1, 4));
        // ten vowels of one, four others of the other; like the first is the third; the vowel of the fourth is another
        VerseBench y = said(row(v(1, 2), 10, 10, 10, 10), row(v(1, 2), 1, 1, 1, 1, 1, 1, 1, 1, 1, 1), row(v(1, 0), 10, 10, 10, 10), row(v(2, 2), 10, 10, 10, 10));
        s.due("0", 10, y.near(0));
        s.due("0 of cost is 0 at most", 1, y.rhyme(0, 2, 4));
        s.due("3 of cost is more", 0, y.rhyme(0, 3, 4));
        s.due("100", 0, y.near(100));
        s.due("a cost of 100", 100, y.cost(0, 1));
        s.due("100 is 100 at most", 1, y.rhyme(0, 1, 4));
        s.due("101", BAD, y.near(101));
        s.due("-1", BAD, y.near(-1));
        VerseBench z = said(row(v(1, 2), 1, 1, 1, 1, 1, 1, 1), row(v(1, 2), 10, 10, 10, 10, 10, 10, 10, 10, 10));
        z.near(100);
        s.due("a cost of 101", 101, z.cost(0, 1));
        s.due("101 is more than 100", 0, z.rhyme(0, 1, 4));
    }

    private void dueEye(String what, int want, int[] one, int[] other) {
        VerseBench x = twoWritten(one, other);
        s.due(what, want, x.rhyme(0, 1, 5));
        s.due(what + ", the other way round", want, x.rhyme(1, 0, 5));
    }

    private void eyes() {
        s.term(2, "5 EYE: (of WORDS) the last three bytes of the WRITINGS", 10);
        dueEye("of three", 1, row(1, 2, 3), row(1, 2, 3));
        dueEye("of eight", 1, row(9, 9, 9, 9, 9, 1, 2, 3), row(8, 8, 8, 8, 8, 1, 2, 3));
        dueEye("of three and eight", 1, row(-128, 127, -1), row(8, 8, 8, 8, 8, -128, 127, -1));
        dueEye("the first three are alike, the last are not", 0, row(1, 2, 3, 4), row(1, 2, 3, 5));
        s.term(2, "(both have three at least)", 10);
        dueEye("two", 0, row(2, 3), row(2, 3));
        dueEye("two and three", 0, row(2, 3), row(1, 2, 3));
        dueEye("two and three, with 0", 0, row(2, 3), row(0, 2, 3));
        dueEye("none at all", 0, row(), row());
        VerseBench x = words(2);
        s.due("both missing", 0, x.rhyme(0, 1, 5));
        x.writing(0, 3);
        s.due("one missing", 0, x.rhyme(0, 1, 5));
        s.due("one missing, the other way round", 0, x.rhyme(1, 0, 5));
        x.writing(1, 3);
        s.due("both there, all 0", 1, x.rhyme(0, 1, 5));
        s.term(2, " are alike. ", 10);
        for (int k = 0; k < 3; k++) {
            int[] other = {7, 1, 2, 3};
            other[k + 1] = -other[k + 1];
            dueEye("but for one of the three", 0, row(6, 1, 2, 3), other);
        }
        dueEye("but for the fourth from the end", 1, row(6, 1, 2, 3), row(7, 1, 2, 3));
    }

    private void perfectOnes() {
        s.term(2, "All RHYMES and RICH ones are PERFECT, KIND 6;", 10);
        dueKinds("a rhyme", RHYME | PERFECT, row(10, v(1, 2)), row(11, v(1, 2)), RHYME | RICH | PERFECT);
        dueKinds("a rich one", RICH | PERFECT, row(10, v(1, 2)), row(10, v(1, 2)), RHYME | RICH | PERFECT);
        dueKinds("neither", 0, row(10, v(1, 2)), row(10, v(2, 2)), RHYME | RICH | PERFECT);
        s.term(2, "of the KINDS 0 to 5 each stands alone else.", 10);
        dueKinds("vowels alone", VOWELS, row(v(1, 2), 10, 11, 12), row(v(1, 2)));
        dueKinds("ends alone", ENDS, row(v(1, 2), v(1, 0), v(1, 0), 12), row(v(2, 2), 12));
        dueKinds("near alone", NEAR, row(v(1, 2)), row(v(2, 2)));
        s.due("eye alone", EYE, kinds(twoWritten(row(1, 2, 3), row(1, 2, 3))));
        VerseBench x = said(row(10, v(1, 2), 12), row(11, v(1, 2), 12));
        s.due("a rhyme is no rich one, and for the eye nothing", RHYME | VOWELS | ENDS | NEAR | PERFECT, kinds(x));
        write(x, 0, 1, 2, 3);
        write(x, 1, 1, 2, 3);
        s.due("for the eye too", RHYME | VOWELS | ENDS | NEAR | EYE | PERFECT, kinds(x));
        dueKinds("none", 0, row(v(1, 2), 10, 11, 12), row(v(2, 2)));
    }

    private void dueCost(String what, int want, int[] one, int[] other) {
        VerseBench x = said(one, other);
        s.due(what, want, x.cost(0, 1));
        s.due(what + ", the other way round", want, x.cost(1, 0));
    }

    private void costs() {
        s.term(2, "COST of two rows of SOUNDS: the least sum of:", 12);
        dueCost("left out and put in, not twice another", 10, row(v(1, 2), 10, 11), row(v(1, 2), 11, 12));
        dueCost("another, not left out and put in", 3, row(v(1, 2), 10), row(v(1, 2), 15));
        dueCost("the one that is cheaper to keep", 8, row(v(1, 2), 10, 11), row(v(1, 2), 16));
        dueCost("the last of three", 10, row(v(1, 2), 10, 11, 12), row(v(1, 2), 12));
        dueCost("a later vowel for the first one", 8, row(v(1, 2)), row(v(2, 2), v(1, 0)));
        dueCost("a later vowel for the first one, past another sound", 13, row(v(1, 2)), row(11, v(2, 2), 10, v(1, 0)));
        dueCost("a later vowel for the first one, past eleven sounds", 8 + 5 * 10, row(v(1, 2)), row(v(2, 2), 10, 11, 12, 13, 14, 15, 16, 17, 18, 19, v(1, 0)));
        dueCost("rows of twelve", 143, row(v(1, 2), 1, 1, 1, 1, 1, 1, 1, 1, 1, 1, 1), row(v(1, 2), 10, 10, 10, 10, 10, 10, 10, 10, 10, 10, 10));
        s.term(2, "one left out, or put in: 8 for a VOWEL, 5 for others;", 12);
        dueCost("a vowel", 8, row(v(1, 2), v(9, 0)), row(v(1, 2)));
        dueCost("another", 5, row(v(1, 2), 10), row(v(1, 2)));
        dueCost("both", 13, row(v(1, 2), 39, v(0, 0)), row(v(1, 2)));
        s.term(2, "one for another: 0 if alike, 3 of VOWELS, or of others with one number modulo 5, 6 of others else;", 12);
        for (int one = 0; one < 10; one++) {
            for (int other = 0; other < 10; other++) dueCost(one + " for " + other, one == other ? 0 : 3, row(v(one, 2)), row(v(other, 2)));
        }
        for (int one = 10; one < 40; one++) {
            for (int other = 10; other < 40; other++) {
                int want = one == other ? 0 : one % 5 == other % 5 ? 3 : 6;
                dueCost(one + " for " + other, want, row(v(1, 2), one), row(v(1, 2), other));
            }
        }
        s.term(2, "a VOWEL for one that is none is never so.", 12);
        dueCost("left out and put in", 13, row(v(1, 2), 10), row(v(1, 2), v(2, 0)));
        dueCost("even with one number modulo 5", 13, row(v(1, 2), 10), row(v(1, 2), v(5, 0)));
    }

    private void twoWords() {
        s.term(2, "TWO WORDS RHYME by a KIND if some SAYINGS of theirs do", 10, 11);
        for (int a = 0; a < 3; a++) {
            for (int b = 0; b < 3; b++) {
                VerseBench x = words(2);
                for (int k = 0; k < 3; k++) {
                    Dues.say(x, 0, v(k == a ? 1 : 2, 2), 20 + k, 20 + k, 20 + k);
                    Dues.say(x, 1, v(k == b ? 1 : 3, 2), 30 + k, 31 + k, 32 + k);
                }
                s.due("by sayings " + a + " and " + b, 1, x.rhyme(0, 1, 2));
                s.due("by which", 3 * a + b, x.how(0, 1, 2));
            }
        }
        VerseBench none = words(2);
        s.due("no sayings", 0, kinds(none));
        Dues.say(none, 0, v(1, 2), 10);
        s.due("no sayings of one", 0, kinds(none));
        s.term(2, "(EYE: by their WRITINGS).", 10);
        VerseBench x = twoWritten(row(1, 2, 3), row(1, 2, 3));
        s.due("without sayings", 1, x.rhyme(0, 1, 5));
        s.due("sayings without writings", 0, said(row(v(1, 2), 10), row(v(1, 2), 10)).rhyme(0, 1, 5));
        s.term(2, "A WORD never RHYMES with itself.", 10, 11, 13, 20);
        VerseBench y = said(row(v(1, 2), 10));
        Dues.say(y, 0, 11, v(1, 2), 10);
        write(y, 0, 1, 2, 3);
        for (int kind = 0; kind <= 6; kind++) {
            s.due("by kind " + kind, 0, y.rhyme(0, 0, kind));
            s.due("by no sayings of kind " + kind, NONE, y.how(0, 0, kind));
            s.due("it is none of those of kind " + kind, NONE, y.rhymes(0, kind, 0));
        }
        Dues.lineOf(y, 0);
        Dues.marks(y, 1);
        s.due("it fills", 0, y.fill(0, 0, NONE, 0));
        s.due("but not where it must rhyme with itself", NONE, y.fill(0, 0, 0, 0));
    }

    /** All the pairs of a word, in their order. */
    private void duePairs(String what, VerseBench x, int w, int... pairs) {
        for (int i = 0; i < pairs.length; i++) s.due(what + ", pair " + i, pairs[i], x.broken(w, i));
        s.due(what + ", no more", NONE, x.broken(w, pairs.length));
    }

    private void brokenOnes() {
        s.term(2, "BROKEN: a WORD w and two WORDS u, v one behind the other: SOUNDS of a SAYING of u and behind it those of one of v,", 14);
        int[] whole = row(10, v(1, 2), 12, v(2, 0), 13);
        duePairs("u, then v", said(whole, row(v(1, 2), 12), row(v(2, 0), 13)), 0, 24 + 2, 2 * 24);
        duePairs("one sound less of u", said(whole, row(v(1, 2)), row(v(2, 0), 13)), 0, 2 * 24);
        duePairs("one sound less of v", said(whole, row(v(1, 2), 12), row(v(2, 0))), 0, 2 * 24);
        duePairs("the last sound of u is another", said(whole, row(v(1, 2), 11), row(v(2, 0), 13)), 0, 2 * 24);
        duePairs("the vowel of u is another", said(whole, row(v(3, 2), 12), row(v(2, 0), 13)), 0, 2 * 24);
        duePairs("the vowel of v is another", said(whole, row(v(1, 2), 12), row(v(3, 0), 13)), 0, 2 * 24);
        duePairs("the last sound of v is another", said(whole, row(v(1, 2), 12), row(v(2, 0), 12)), 0, 2 * 24);
        duePairs("one sound more between", said(whole, row(v(1, 2), 12), row(12, v(2, 0), 13)), 0, 2 * 24);
        VerseBench x = said(whole, row(v(9, 2)), row(v(9, 0)));
        for (int k = 0; k < 2; k++) Dues.say(x, 1, v(k == 1 ? 1 : 8, 2), 12);
        for (int k = 0; k < 2; k++) Dues.say(x, 2, v(k == 1 ? 2 : 8, 0), 13);
        duePairs("by the third sayings of both", x, 0, 24 + 2, 2 * 24);
        duePairs("no sayings of u", said(whole, row(v(1, 2), 12)), 0);
        s.term(2, "make a SAYING (here of up to 24 SOUNDS);", 14);
        int[] twelve = row(v(1, 2), 10, 11, 12, 13, 14, 15, 16, 17, 18, 19, 20);
        int[] weak = row(10, 11, 12, 13, 14, 15, 16, 17, 18, 19, 20, v(3, 0));
        duePairs("the tail is all of v", said(twelve, weak), 0, 24);
        duePairs("the tail is longer than any saying", said(twelve, row(v(1, 2), 10, 11, 12, 13, 14), row(15, 16, 17, 18, 19, 20, v(1, 0))), 0, 2 * 24);
        duePairs("the tail of six and six", said(row(v(1, 2), 10, 11, 12, 13, 14, v(1, 0), 16, 17, 18, 19, 20), row(10, 10, 10, 10, 10, 10, v(1, 2), 10, 11, 12, 13, 14),
            row(v(1, 0), 16, 17, 18, 19, 20)), 0, 24 + 2, 2 * 24);
        s.term(2, "that and a SAYING of w are a PERFECT RHYME.", 14);
        duePairs("a rich one, and a rhyme", said(row(10, v(1, 2)), row(v(1, 0))), 0, 24, 24 + 1);
        duePairs("neither", said(row(v(1, 2), 10), row(v(1, 0))), 0, 24);
        VerseBench y = said(row(v(1, 0)), row(v(2, 0)));
        duePairs("before sounds change", y, 0, 0, 24);
        y.speech(2, 1);
        duePairs("as they sound", y, 0, 0, 1, 24, 24 + 1);
        VerseBench z = said(row(v(5, 2)), row(v(1, 0)));
        Dues.say(z, 0, v(6, 2));
        Dues.say(z, 0, v(1, 1));
        // the first two by vowel 5, the last by the third saying of w alone
        duePairs("by the third saying of w", z, 0, 0, 24, 24 + 1);
    }

    private void stressesOfBrokenOnes() {
        s.term(2, "with all stresses of v one less (0 stays 0),", 14);
        // word 0 is like v alone, word 1 like u and v; word 2 is u, word 3 is v
        for (int ofU = 0; ofU <= 2; ofU++) {
            for (int ofV = 0; ofV <= 2; ofV++) {
                VerseBench x = said(row(v(2, 2), 13), row(v(1, 2), 12, v(2, 0), 13), row(v(1, ofU), 12), row(v(2, ofV), 13));
                boolean isOfV = Math.max(0, ofV - 1) >= ofU;
                String what = "stress " + ofU + ", then " + ofV;
                s.due(what + ": the tail is in v", isOfV ? 1 : 0, hasPair(x, 0, 2 * 24 + 3));
                s.due(what + ": the tail is in u", isOfV ? 0 : 1, hasPair(x, 1, 2 * 24 + 3));
            }
        }
        VerseBench half = said(row(v(2, 2), 13), row(v(5, 0)), row(v(7, 1), 11, v(2, 0), 13));
        s.due("half is weak then, and the last vowel begins the tail", 1, hasPair(half, 0, 24 + 2));
        VerseBench full = said(row(v(7, 2), 11, v(2, 0), 13), row(v(5, 0)), row(v(7, 2), 11, v(2, 1), 13));
        s.due("full is half then, and begins the tail", 1, hasPair(full, 0, 24 + 2));
        VerseBench last = said(row(v(2, 2), 13), row(v(5, 1)), row(v(7, 2), 11, v(2, 2), 13));
        s.due("the last of the full ones", 1, hasPair(last, 0, 24 + 2));
        VerseBench ofU = said(row(v(6, 2), 13), row(v(5, 1), v(6, 1), v(7, 0)), row(v(3, 1), 13));
        Dues.say(ofU, 0, v(6, 2), v(7, 0), v(3, 0), 13);
        s.due("the last of the half ones of u", 1, hasPair(ofU, 0, 24 + 2));
    }

    private static int hasPair(VerseBench x, int w, int pair) {
        for (int i = 0; x.broken(w, i) != NONE; i++) {
            if (x.broken(w, i) == pair) return 1;
        }
        return 0;
    }

    private void near() {
        s.promise(9, "C is v: what it was.");
        VerseBench x = new VerseBench();
        s.due("100", 10, x.near(100));
        s.due("0", 100, x.near(0));
        s.due("the same again", 0, x.near(0));
        s.due("1", 0, x.near(1));
        s.promise(9, " BAD.");
        for (int wrong : new int[] {-1, 101, LOW, HIGH}) s.refused("near(" + wrong + ")", BAD, EdgesOfWords::rich, y -> y.near(wrong));
    }

    private void rhyme() {
        s.promise(10, "Whether two WORDS RHYME by a KIND (0 .. 6): 1, 0.");
        VerseBench x = said(row(10, v(1, 2), 12), row(11, v(1, 2), 12));
        int[] want = {1, 0, 1, 1, 1, 0, 1};
        for (int kind = 0; kind <= 6; kind++) s.due("kind " + kind, want[kind], x.rhyme(0, 1, kind));
        VerseBench y = words(24);
        Dues.say(y, 22, v(1, 2));
        Dues.say(y, 23, v(1, 2));
        s.due("the last words", 1, y.rhyme(22, 23, 6));
        s.promise(10, " BAD.");
        Supplier<VerseBench> made = EdgesOfWords::rich;
        for (int wrong : new int[] {-1, 6, 24, LOW, HIGH}) {
            s.refused("w " + wrong, BAD, made, z -> z.rhyme(wrong, 0, 0));
            s.refused("u " + wrong, BAD, made, z -> z.rhyme(0, wrong, 0));
            s.refused("both " + wrong, BAD, made, z -> z.rhyme(wrong, wrong, 0));
        }
        for (int wrong : new int[] {-1, 7, LOW, HIGH}) {
            s.refused("kind " + wrong, BAD, made, z -> z.rhyme(0, 1, wrong));
            s.refused("kind " + wrong + " of one twice", BAD, made, z -> z.rhyme(0, 0, wrong));
        }
    }

    private void how() {
        s.promise(11, "The SAYINGS by which they do: 3 * that of w, and that of u,");
        VerseBench x = said(row(v(1, 2), 20), row(v(2, 2), 21));
        s.due("none yet", NONE, x.how(0, 1, 6));
        Dues.say(x, 0, v(3, 2), 22);
        Dues.say(x, 0, v(4, 2), 23);
        Dues.say(x, 1, v(3, 2), 24);
        Dues.say(x, 1, v(4, 2), 23);
        s.due("the third and the third", 8, x.how(0, 1, 6));
        s.due("the second and the second, by vowels", 4, x.how(0, 1, 2));
        s.promise(11, "the first such");
        VerseBench y = said(row(v(1, 2)), row(v(2, 2)));
        Dues.say(y, 0, v(2, 2));
        Dues.say(y, 1, v(1, 2));
        Dues.say(y, 1, v(1, 2));
        s.due("by w, then by u", 1, y.how(0, 1, 6));
        s.due("by w, then by u, the other way round", 1, y.how(1, 0, 6));
        s.promise(11, "(EYE: 0);");
        VerseBench z = twoWritten(row(1, 2, 3), row(1, 2, 3));
        s.due("eye, without sayings", 0, z.how(0, 1, 5));
        s.promise(11, " NONE.");
        s.due("eye", NONE, words(2).how(0, 1, 5));
        for (int kind = 0; kind <= 6; kind++) s.due("kind " + kind, NONE, said(row(v(1, 2), 10, 11, 12), row(v(2, 2))).how(0, 1, kind));
        s.promise(11, " BAD.");
        Supplier<VerseBench> made = EdgesOfWords::rich;
        for (int wrong : new int[] {-1, 6, 24, LOW, HIGH}) {
            s.refused("w " + wrong, BAD, made, u -> u.how(wrong, 0, 0));
            s.refused("u " + wrong, BAD, made, u -> u.how(0, wrong, 0));
        }
        for (int wrong : new int[] {-1, 7, LOW, HIGH}) s.refused("kind " + wrong, BAD, made, u -> u.how(0, 1, wrong));
    }

    private void cost() {
        s.promise(12, "The least COST of TAILS of any SAYINGS of two WORDS");
        VerseBench x = said(row(10, 11, v(1, 2), 20), row(v(2, 2), 21));
        s.due("of the tails alone", 9, x.cost(0, 1));
        Dues.say(x, 0, v(1, 2), 21);
        s.due("by the second of w", 3, x.cost(0, 1));
        Dues.say(x, 1, v(9, 2), 30, 30, 30);
        s.due("a dearer one", 3, x.cost(0, 1));
        Dues.say(x, 0, v(5, 2));
        Dues.say(x, 1, v(5, 2));
        s.due("by the third of both", 0, x.cost(0, 1));
        s.due("the other way round", 0, x.cost(1, 0));
        s.promise(12, "(one twice, too);");
        s.due("one twice", 0, x.cost(1, 1));
        s.promise(12, "NONE: one has no SAYING.");
        VerseBench y = words(2);
        s.due("both", NONE, y.cost(0, 1));
        s.due("one twice", NONE, y.cost(0, 0));
        Dues.say(y, 0, v(1, 2));
        s.due("the other", NONE, y.cost(0, 1));
        s.due("the first", NONE, y.cost(1, 0));
        s.promise(12, " BAD.");
        for (int wrong : new int[] {-1, 6, 24, LOW, HIGH}) {
            s.refused("w " + wrong, BAD, EdgesOfWords::rich, z -> z.cost(wrong, 0));
            s.refused("u " + wrong, BAD, EdgesOfWords::rich, z -> z.cost(0, wrong));
        }
    }

    private void rhymes() {
        s.promise(13, "WORD i of those that RHYME with a WORD by a KIND: by number,");
        VerseBench x = words(24);
        for (int w = 0; w < 24; w++) Dues.say(x, w, 10 + w, v(1, w % 3), 39);
        for (int kind : new int[] {0, 2, 3, 6}) {
            for (int i = 0; i < 23; i++) s.due("kind " + kind + " of word 5", i < 5 ? i : i + 1, x.rhymes(5, kind, i));
        }
        s.due("rich", NONE, x.rhymes(5, 1, 0));
        s.promise(13, "of KIND 4 by COST, then by number.");
        VerseBench y = words(24);
        Dues.say(y, 0, v(1, 2));
        // words 1 and 2 have eleven sounds more, 3 and 4 ten .. 21 and 22 one, 23 is not said
        for (int w = 1; w <= 22; w++) y.saying(w, 13 - (w + 1) / 2, 0x0A0A_0A0A_0A0A_0A51L, 0x0A0A_0A0AL);
        y.near(55);
        for (int i = 0; i < 22; i++) s.due("by cost, then by number", 21 - i / 2 * 2 + i % 2, y.rhymes(0, 4, i));
        s.due("no more", NONE, y.rhymes(0, 4, 22));
        y.near(54);
        s.due("the dearest within C", 4, y.rhymes(0, 4, 19));
        s.due("beyond C", NONE, y.rhymes(0, 4, 20));
        Dues.say(y, 2, v(1, 0));
        s.due("by the least cost of any sayings", 2, y.rhymes(0, 4, 0));
        s.promise(13, "NONE: there are not so many.");
        for (int kind : new int[] {0, 2, 3, 6, 4}) {
            s.due("the last of kind " + kind, 23, x.rhymes(0, kind, 22));
            for (int i : new int[] {23, 24, 1000, HIGH}) s.due("kind " + kind + ", i " + i, NONE, x.rhymes(0, kind, i));
        }
        s.due("a word that is not said", NONE, y.rhymes(23, 4, 0));
        VerseBench two = words(24);
        for (int w = 0; w < 24; w++) Dues.say(two, w, v(w < 3 ? 1 : 2, 2), w < 3 ? 10 : 10 + w);
        two.near(0);
        for (int kind : new int[] {1, 2, 3, 6, 4}) {
            s.due("the last of two of kind " + kind, 2, two.rhymes(0, kind, 1));
            for (int i = 2; i <= 25; i++) s.due("kind " + kind + ", i " + i, NONE, two.rhymes(0, kind, i));
        }
        s.promise(13, "BAD: also i is below 0.");
        Supplier<VerseBench> made = EdgesOfWords::rich;
        for (int wrong : new int[] {-1, 6, 24, LOW, HIGH}) s.refused("w " + wrong, BAD, made, z -> z.rhymes(wrong, 6, 0));
        for (int wrong : new int[] {-1, 7, LOW, HIGH}) s.refused("kind " + wrong, BAD, made, z -> z.rhymes(0, wrong, 0));
        for (int kind = 0; kind <= 6; kind++) {
            int told = kind;
            for (int wrong : new int[] {-1, LOW}) s.refused("i " + wrong, BAD, made, z -> z.rhymes(0, told, wrong));
        }
    }

    private void broken() {
        s.promise(14, "Pair i of those that are BROKEN rhymes of a WORD: 24 * u + v, by these numbers");
        VerseBench x = words(24);
        for (int w = 0; w < 24; w++) Dues.say(x, w, v(1, 0));
        for (int i : new int[] {0, 1, 23, 24, 25, 300, 551, 552, 574, 575}) s.due("pair " + i + " of all", i, x.broken(7, i));
        s.promise(14, "(u, v may be alike, and be w).");
        VerseBench y = words(3);
        Dues.say(y, 2, v(1, 0));
        s.due("u, v and w are one", 2 * 24 + 2, y.broken(2, 0));
        s.due("there is no other", NONE, y.broken(2, 1));
        s.promise(14, " NONE.");
        for (int i : new int[] {576, 577, 1000, HIGH}) s.due("pair " + i, NONE, x.broken(7, i));
        s.due("of a word that is not said", NONE, y.broken(0, 0));
        s.promise(14, "BAD: word, i is below 0.");
        Supplier<VerseBench> made = EdgesOfWords::rich;
        for (int wrong : new int[] {-1, 6, 24, LOW, HIGH}) s.refused("word " + wrong, BAD, made, z -> z.broken(wrong, 0));
        for (int wrong : new int[] {-1, -24, LOW}) s.refused("i " + wrong, BAD, made, z -> z.broken(0, wrong));
    }
}
