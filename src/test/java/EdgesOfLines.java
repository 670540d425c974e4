import java.util.function.Supplier;

/** The edges of parts 3 and 5 of the document's Terms, and of promises 15 to 20: meters, lines, layings, gaps. */
final class EdgesOfLines extends Benches {
    private static final int WEAK = 0, STRONG = 1, EITHER = 2;

    private final Sentences s;

    EdgesOfLines(Sentences s) {
        this.s = s;
    }

    void run() {
        meters();
        lines();
        layingsOfSayings();
        agreement();
        turned();
        notTurned();
        slurred();
        headless();
        tail();
        asOften();
        leastAndAll();
        howMany();
        gaps();
        findings();
        meter();
        line();
        inLine();
        layings();
        laid();
        fill();
        refusedFills();
    }

    /** One line of words of one syllable, of these stresses, laid on these marks. */
    private void dueLaid(String what, int layings, int least, int[] stresses, int... marks) {
        dueLaid(what, layings, least, stressed(stresses), marks);
    }

    private void dueLaid(String what, int layings, int least, VerseBench x, int... marks) {
        Dues.marks(x, marks);
        s.due(what + ", layings", layings, x.layings(0));
        s.due(what + ", laid", least, x.laid(0));
    }

    /** Words with sayings of such stresses, without any sound but vowels. */
    private static VerseBench vowels(int[][]... words) {
        VerseBench x = words(words.length);
        for (int w = 0; w < words.length; w++) {
            for (int[] stresses : words[w]) {
                int[] bytes = new int[stresses.length];
                for (int k = 0; k < bytes.length; k++) bytes[k] = v(k % 10, stresses[k]);
                Dues.say(x, w, bytes);
            }
        }
        return x;
    }

    private static int[][] ways(int[]... sayings) {
        return sayings;
    }

    private void meters() {
        s.term(3, "A METER is a row of 1 to 12 marks: 0 weak, 1 strong, 2 either.", 15);
        VerseBench x = new VerseBench();
        s.due("none", BAD, x.meter(0, 0));
        s.due("one", 1, x.meter(1, 0));
        s.due("twelve", 12, x.meter(12, 0));
        s.due("thirteen", BAD, x.meter(13, 0));
        s.due("marks", 12, x.count(3));
        s.due("a mark 3", BAD, x.meter(1, 3));
        dueLaid("weak: a weak one", 2, 0, row(0), WEAK);
        dueLaid("weak: a full one", 0, NONE, row(2), WEAK);
        dueLaid("strong: a weak one", 0, NONE, row(0), STRONG);
        dueLaid("strong: a full one", 1, 0, row(2), STRONG);
        dueLaid("either: a weak one", 1, 0, row(0), EITHER);
        dueLaid("either: a full one", 1, 0, row(2), EITHER);
    }

    private void lines() {
        s.term(3, "A LINE is a row of up to 8 WORDS (the same may come again), each with a SAYING;", 16, 18);
        VerseBench x = said(row(v(1, 1)), row(v(1, 1)));
        s.due("none", BAD, x.line(0, 0));
        s.due("one", 0, Dues.lineOf(x, 0));
        s.due("eight, the same again", 1, Dues.lineOf(x, 0, 0, 0, 0, 0, 0, 0, 1));
        s.due("nine", BAD, Dues.lineOf(x, 0, 0, 0, 0, 0, 0, 0, 0, 0));
        s.due("eight words", 1, x.inLine(1, 7));
        s.due("no ninth", NONE, x.inLine(1, 8));
        Dues.marks(x, 2, 2, 2, 2, 2, 2, 2, 2);
        s.due("eight syllables", 1, x.layings(1));
        Dues.say(x, 0, v(2, 1));
        s.due("each of seven with one of two sayings", 128, x.layings(1));
        x.word(0);
        Dues.lineOf(x, 0, 2);
        Dues.marks(x, 2);
        s.due("one without a saying", NONE, x.laid(2));
        s.due("one without a saying", 0, x.layings(2));
    }

    private void layingsOfSayings() {
        s.term(3, "LAYINGS: choices of SAYINGS (by their numbers), and of LICENCES,", 18);
        VerseBench x = vowels(ways(row(1), row(1), row(1)));
        Dues.lineOf(x, 0);
        dueLaid("three sayings that are alike", 3, 0, x, EITHER);
        VerseBench y = vowels(ways(row(1), row(1, 1), row(1, 1)));
        Dues.lineOf(y, 0);
        dueLaid("one of three", 1, 0, y, EITHER);
        dueLaid("two of three", 2, 0, y, EITHER, EITHER);
        VerseBench z = vowels(ways(row(1), row(1, 1)));
        Dues.lineOf(z, 0, 0);
        dueLaid("one word twice, said otherwise", 2, 0, z, EITHER, EITHER, EITHER);
        dueLaid("one word twice, said alike", 1, 0, z, EITHER, EITHER);
        s.term(3, "by which the STRESSES in a row fit a METER: mark by mark, from the first on:", 18, 19);
        dueLaid("in order", 1, 0, row(2, 1, 2), STRONG, WEAK, STRONG);
        dueLaid("in order over the ends of words", 1, 0, row(2, 0, 2, 0, 2, 0, 2), 1, 0, 1, 0, 1, 0, 1);
        dueLaid("not from the last on", 0, NONE, row(1, 2, 2), STRONG, STRONG, WEAK);
        dueLaid("from the first on", 1, 0, row(2, 2, 1), STRONG, STRONG, WEAK);
    }

    private void agreement() {
        s.term(3, "a syllable with its mark: 0 of cost, if they agree (weak: STRESS 0; strong: STRESS 2; either, or STRESS 1: always);", 18, 19);
        // a strong mark with a full one ahead, so that no licence is at hand
        int[][] want = {{0, 0, NONE}, {NONE, 0, 0}, {0, 0, 0}};
        for (int mark = WEAK; mark <= EITHER; mark++) {
            for (int stress = 0; stress <= 2; stress++) {
                int due = want[mark][stress];
                dueLaid("mark " + mark + ", stress " + stress, due == 0 ? 1 : 0, due, row(2, stress), STRONG, mark);
            }
        }
        dueLaid("twelve half ones on twelve marks", 1, 0, twelve(1), 0, 1, 2, 0, 1, 2, 0, 1, 2, 0, 1, 2);
    }

    /** A bench with a line of one word of twelve syllables of one stress. */
    private static VerseBench twelve(int stress) {
        VerseBench x = vowels(ways(twelveOf(stress)));
        Dues.lineOf(x, 0);
        return x;
    }

    private void turned() {
        s.term(3, "LICENCE 1 TURNED (cost 3): a mark 0 and a mark 1 right behind it, wherever they come,", 18, 19);
        dueLaid("the first marks; or headless, and a tail or a slur", 3, 3, row(2, 0), 0, 1);
        dueLaid("the first marks of more; or headless, and a slur", 2, 3, row(2, 0, 2), 0, 1, 1);
        dueLaid("marks in the midst", 1, 3, row(2, 2, 0, 2), 1, 0, 1, 1);
        dueLaid("the last marks", 1, 3, row(2, 2, 0), 1, 0, 1);
        dueLaid("the last of twelve", 1, 3, lastOfTwelve(), 1, 1, 1, 1, 1, 1, 1, 1, 1, 1, 0, 1);
        dueLaid("a mark 1 and a mark 0", 0, NONE, row(2, 0, 2), 1, 1, 0);
        dueLaid("a mark 0 and a mark 2", 0, NONE, row(2, 2, 0), 1, 0, 2);
        dueLaid("a mark 2 and a mark 1", 0, NONE, row(2, 2, 0), 1, 2, 1);
        dueLaid("two marks 0", 0, NONE, row(2, 2, 0), 1, 0, 0);
        dueLaid("a mark between", 0, NONE, row(2, 2, 1, 0), 1, 0, 2, 1);
        dueLaid("the mark behind is missing", 0, NONE, row(2, 2, 0), 1, 0);
    }

    /** Ten full syllables, one more, and a weak one. */
    private static VerseBench lastOfTwelve() {
        VerseBench x = vowels(ways(row(2, 2, 2, 2, 2, 2, 2, 2, 2, 2, 2)), ways(row(0)));
        Dues.lineOf(x, 0, 1);
        return x;
    }

    private void notTurned() {
        s.term(3, "for a syllable of STRESS 2 and the one behind it, of STRESS 0;", 18, 19);
        for (int first = 0; first <= 2; first++) {
            for (int second = 0; second <= 2; second++) {
                boolean agrees = first < 2 && second > 0;
                boolean turns = first == 2 && second == 0;
                int due = agrees ? 0 : turns ? 3 : NONE;
                dueLaid("stress " + first + " and " + second, due == NONE ? 0 : 1, due, row(2, first, second), 1, 0, 1);
            }
        }
        dueLaid("the one behind it, not the next but one", 2, 4, row(2, 2, 0, 0), 1, 0, 1);
        VerseBench x = vowels(ways(row(2, 2, 0)));
        Dues.lineOf(x, 0);
        dueLaid("within a word", 1, 3, x, 1, 0, 1);
        VerseBench y = vowels(ways(row(2, 2)), ways(row(0, 2), row(1, 2)));
        Dues.lineOf(y, 0, 1);
        dueLaid("over the ends of words, by one saying of the second", 1, 3, y, 1, 0, 1, 1);
        dueLaid("the line ends behind the first", 0, NONE, row(2, 2), 1, 0, 1);
    }

    private void slurred() {
        s.term(3, "2 SLURRED (cost 2): a syllable of STRESS 0 has no mark,", 18, 19);
        dueLaid("a weak one", 1, 2, row(2, 0, 2), 1, 1);
        dueLaid("a half one", 0, NONE, row(2, 1, 2), 1, 1);
        dueLaid("a full one", 0, NONE, row(2, 2, 2), 1, 1);
        dueLaid("on its mark, or slurred with nothing on it", 1, 0, row(2, 0, 2), 1, 0, 1);
        s.term(3, "if another syllable of the LINE is ahead of it", 18, 19);
        dueLaid("the first", 0, NONE, row(0, 2), STRONG);
        dueLaid("the first, on its mark alone", 1, 0, row(0, 2), WEAK, STRONG);
        dueLaid("the only one: on its mark, or headless and a tail", 2, 0, row(0), WEAK);
        dueLaid("the second", 1, 2, row(0, 0, 2), WEAK, STRONG);
        dueLaid("the first of a word, not of the line", 1, 2, row(1, 0, 1), EITHER, EITHER);
        s.term(3, "(behind the last mark, too);", 18, 19);
        dueLaid("two behind it: a slur, and a slur or a tail", 2, 3, row(2, 0, 0), STRONG);
        dueLaid("three behind it", 2, 5, row(2, 0, 0, 0), STRONG);
        dueLaid("a full one behind it", 0, NONE, row(2, 0, 2), STRONG);
    }

    private void headless() {
        s.term(3, "3 HEADLESS (cost 4): the first mark has no syllable,", 18, 19);
        dueLaid("the first", 1, 4, row(2), WEAK, STRONG);
        dueLaid("the second", 0, NONE, row(2, 2), STRONG, WEAK, STRONG);
        dueLaid("the last", 0, NONE, row(2), STRONG, WEAK);
        dueLaid("the first two", 0, NONE, row(2), WEAK, WEAK, STRONG);
        dueLaid("the only one, and a tail; or its syllable", 2, 0, row(0), WEAK);
        dueLaid("the only one, but no tail", 1, 0, row(1), WEAK);
        dueLaid("the first of twelve", 1, 4, headlessTwelve(), 0, 1, 1, 1, 1, 1, 1, 1, 1, 1, 1, 1);
        dueLaid("then turned", 1, 7, row(2, 0), WEAK, WEAK, STRONG);
        s.term(3, "if it is weak;", 18, 19);
        dueLaid("strong", 0, NONE, row(2), STRONG, STRONG);
        dueLaid("either", 0, NONE, row(2), EITHER, STRONG);
    }

    private static VerseBench headlessTwelve() {
        VerseBench x = vowels(ways(row(2, 2, 2, 2, 2, 2, 2, 2, 2, 2, 2)));
        Dues.lineOf(x, 0);
        return x;
    }

    private void tail() {
        s.term(3, "4 TAIL (cost 1): one syllable of STRESS 0 behind the last mark,", 18, 19);
        dueLaid("a weak one; or it is slurred", 2, 1, row(2, 0), STRONG);
        dueLaid("a half one", 0, NONE, row(2, 1), STRONG);
        dueLaid("a full one", 0, NONE, row(2, 2), STRONG);
        dueLaid("two weak ones are not two tails", 2, 3, row(2, 0, 0), STRONG);
        dueLaid("not behind the last mark", 0, NONE, row(2, 0), STRONG, STRONG);
        dueLaid("not ahead of the last mark", 1, 2, row(2, 0, 2), STRONG, STRONG);
        s.term(3, "with none behind it", 18, 19);
        dueLaid("no slur behind a tail", 2, 3, row(1, 0, 0), EITHER);
        dueLaid("no mark behind a tail", 2, 1, row(1, 0), EITHER);
        VerseBench x = vowels(ways(row(2)), ways(row(0), row(0, 0)));
        Dues.lineOf(x, 0, 1, 1);
        // each of four choices of sayings ends with a tail or with a slur
        dueLaid("none of a word behind", 8, 3, x, STRONG);
        s.term(3, "(it may be the only syllable);", 18, 19);
        dueLaid("headless, and a tail", 2, 0, row(0), WEAK);
        VerseBench y = vowels(ways(row(0)), ways(row(2)));
        Dues.lineOf(y, 0);
        dueLaid("but a mark that is not weak has its syllable", 0, NONE, y, STRONG);
    }

    private void asOften() {
        s.term(3, "1 and 2 as often as they fit.", 18, 19);
        VerseBench x = vowels(ways(row(2)), ways(row(2, 0)));
        Dues.lineOf(x, 0, 1, 1, 1, 1, 1);
        dueLaid("turned five times", 1, 15, x, 1, 0, 1, 0, 1, 0, 1, 0, 1, 0, 1);
        VerseBench y = vowels(ways(row(2, 0, 0, 0, 0, 0, 0, 0, 0, 0, 0, 0)), ways(row(0, 0, 0, 0, 0, 0, 0, 0, 0, 0, 0, 0)));
        Dues.lineOf(y, 0, 1, 1, 1, 1, 1, 1, 1);
        dueLaid("slurred 94 times, then a tail or a slur", 2, 94 * 2 + 1, y, STRONG);
        VerseBench z = vowels(ways(row(2, 0, 2)), ways(row(0, 2)));
        Dues.lineOf(z, 0, 1, 1, 1, 1, 1, 1, 1);
        dueLaid("slurred eight times", 1, 16, z, 1, 1, 1, 1, 1, 1, 1, 1, 1);
        dueLaid("turned, slurred, turned", 1, 3 + 2 + 3, row(2, 2, 0, 0, 2, 2, 0), 1, 0, 1, 1, 0, 1);
    }

    private void leastAndAll() {
        s.term(3, "THE LAYING: that of least cost;", 19);
        dueLaid("a tail, not a slur", 2, 1, row(2, 0), STRONG);
        dueLaid("its mark, not headless and a tail", 2, 0, row(0), WEAK);
        VerseBench x = vowels(ways(row(2, 0, 2), row(2, 0, 0, 2), row(2, 2)));
        Dues.lineOf(x, 0);
        dueLaid("the last of three sayings", 3, 0, x, STRONG, STRONG);
        VerseBench y = vowels(ways(row(2, 2), row(2, 0, 2), row(2, 0, 0, 2)));
        Dues.lineOf(y, 0);
        dueLaid("the first of three sayings", 3, 0, y, STRONG, STRONG);
        dueLaid("turned for 3, not headless for 5", 3, 3, row(2, 0), WEAK, STRONG);
        VerseBench z = vowels(ways(row(2, 0), row(2, 2, 0)));
        Dues.lineOf(z, 0, 0);
        // 2 0 2 0: a slur and a tail or two slurs; no other saying fits
        dueLaid("the least of two", 2, 3, z, STRONG, STRONG);
        s.term(3, "all must be used up.", 18, 19);
        dueLaid("a mark is left", 0, NONE, row(2), STRONG, STRONG);
        dueLaid("a syllable is left", 0, NONE, row(2, 2), STRONG);
        dueLaid("a weak mark is left", 0, NONE, row(2), STRONG, WEAK);
        dueLaid("a half syllable is left", 0, NONE, row(2, 1), STRONG);
        dueLaid("twelve on twelve", 1, 0, twelve(2), 1, 1, 1, 1, 1, 1, 1, 1, 1, 1, 1, 1);
        dueLaid("twelve on eleven", 0, NONE, twelve(2), 1, 1, 1, 1, 1, 1, 1, 1, 1, 1, 1);
    }

    private void howMany() {
        s.term(3, "How many there are are counted by SAYINGS and by what each syllable and mark does; two that differ in these are two.", 18);
        dueLaid("which of two is slurred", 2, 2, row(2, 0, 0, 2), 1, 0, 1);
        dueLaid("which of three is slurred", 3, 2, row(2, 0, 0, 0, 2), 1, 0, 0, 1);
        dueLaid("a slur and a tail are two", 2, 1, row(2, 0), STRONG);
        dueLaid("headless is another", 3, 3, row(2, 0), WEAK, STRONG);
        VerseBench x = vowels(ways(row(1), row(1), row(1)));
        Dues.lineOf(x, 0, 0, 0, 0, 0, 0, 0, 0);
        dueLaid("three sayings of eight words", 6561, 0, x, 2, 2, 2, 2, 2, 2, 2, 2);
    }

    /** Line 0 is word 0 and word 4, on a weak and a strong mark; word 6 is not said. */
    private static VerseBench gap() {
        VerseBench x = new VerseBench();
        int[] heaps = {0, 1, 1, 1, 5, 1, 1};
        int[][] rows = {row(v(1, 0)), row(10, v(2, 2), 12), row(11, v(2, 2), 12), row(v(2, 2), 13), row(v(2, 2), 12), row(v(2, 0), 12)};
        for (int w = 0; w < heaps.length; w++) x.word(heaps[w]);
        for (int w = 0; w < rows.length; w++) Dues.say(x, w, rows[w]);
        Dues.lineOf(x, 0, 4);
        Dues.marks(x, 0, 1);
        return x;
    }

    private void dueFills(String what, VerseBench x, int line, int placeHeap, int rhyme, int... fills) {
        for (int i = 0; i < fills.length; i++) s.due(what + ", fill " + i, fills[i], x.fill(line, placeHeap, rhyme, i));
        s.due(what + ", no more", NONE, x.fill(line, placeHeap, rhyme, fills.length));
    }

    private void gaps() {
        s.term(5, "A GAP: in a LINE the WORD at a place left open, with a HEAP:", 20);
        VerseBench x = gap();
        Dues.lineOf(x, 0, 6);
        s.due("the word there is not said", NONE, x.laid(1));
        dueFills("it is left open", x, 1, 6 + 1, NONE, 1, 2, 3);
        Dues.lineOf(x, 6, 1);
        dueFills("another word is not said", x, 2, 6 + 1, NONE);
        Dues.lineOf(x, 0, 0);
        dueFills("that place alone", x, 3, 6 + 1, NONE, 1, 2, 3);
        dueFills("the word that is there", x, 0, 6 + 5, NONE, 4);
        s.due("the line stays", 4, x.inLine(0, 1));
        s.term(5, "FILLS are WORDS of the HEAP, by number, with which the LINE fits the METER,", 20);
        dueFills("of heap 1", x, 0, 6 + 1, NONE, 1, 2, 3);
        dueFills("of heap 5", x, 0, 6 + 5, NONE, 4);
        dueFills("of a heap without words", x, 0, 6 + 2, NONE);
        dueFills("of the first place", x, 0, 0, NONE, 0);
        dueFills("weak ones at the first place", x, 0, 1, NONE, 5);
        Dues.marks(x, 1);
        dueFills("by a licence: none", x, 0, 1, NONE);
        Dues.marks(x, 2);
        dueFills("by a licence: a tail", x, 3, 1, NONE, 1, 2, 3, 5);
        Dues.say(x, 6, v(9, 2), v(9, 2));
        Dues.say(x, 6, v(9, 0));
        Dues.marks(x, 0, 0);
        dueFills("by the second saying", x, 3, 6 + 1, NONE, 5, 6);
        s.term(5, "and that, if another WORD is told, RHYME with it (PERFECT).", 20);
        VerseBench y = gap();
        y.form(2);
        y.loose(1);
        dueFills("a rhyme; vowels and near ones are none", y, 0, 6 + 1, 4, 1, 2);
        dueFills("never with itself", y, 0, 6 + 1, 1, 2);
        dueFills("one that is not said", y, 0, 6 + 1, 6);
        y.speech(11, 10);
        dueFills("a rich one", y, 0, 6 + 1, 1, 2);
        y.speech(13, 12);
        dueFills("as they sound", y, 0, 6 + 1, 4, 1, 2, 3);
        dueFills("a rhyme that does not fit", y, 0, 1, 4, 5);
    }

    private void findings() {
        VerseBench x = words(2);
        s.term(5, "FINDINGS: NOTHING: a WRITING is MISSING;", 5, 6);
        s.due("the constant", -11, VerseBench.NOTHING);
        s.due("spell", NOTHING, x.spell(0, 0, 0));
        s.due("copy", NOTHING, x.copy(0, 0, 0, 0));
        x.writing(0, 0);
        s.due("copy to one", NOTHING, x.copy(0, 1, 0, 0));
        s.term(5, "INDEX: there is no such place;", 5, 6, 8);
        s.due("the constant", -13, VerseBench.INDEX);
        s.due("spell", INDEX, x.spell(0, 0, 0));
        s.due("copy", INDEX, x.copy(0, 0, 1, 0));
        Dues.say(x, 0, 0);
        s.due("told", INDEX, x.told(0, 0, 5));
        s.term(5, "SIZE: a number of places is below 0.", 4);
        s.due("the constant", -14, VerseBench.SIZE);
        s.due("-1", SIZE, x.writing(0, -1));
        s.due("0", 0, x.writing(0, 0));
        s.nothingToAsk(5, "Ahead of the calls `word`, `saying`, `writing`, `spell`, `copy`, `speech`, `told` the interface says: ---- words.");
        s.nothingToAsk(5, "Ahead of the calls `near`, `rhyme`, `how`, `cost`, `rhymes`, `broken` the interface says: ---- rhymes.");
        s.nothingToAsk(5, "Ahead of the calls `meter`, `line`, `inLine`, `layings`, `laid`, `fill` the interface says: ---- meters, lines.");
        s.nothingToAsk(5, "Ahead of the calls `form`, `place`, `loose`, `set`, `check`, `complete`, `stands`, `count` the interface says: ---- forms.");
    }

    private void meter() {
        s.promise(15, "THE METER is a row of n marks, told as digits to the base 3, digit 0 the first: n.");
        int[] half = {1, 1, 1, 1, 1, 1, 1, 1, 1, 1, 1, 1};
        for (int place = 0; place < 12; place++) {
            int[] stresses = half.clone();
            stresses[place] = 2;
            VerseBench x = vowels(ways(stresses));
            Dues.lineOf(x, 0);
            int power = (int) Math.round(Math.pow(3, place));
            s.due("twelve, all but one either", 12, x.meter(12, 531440 - 2 * power));
            s.due("a full one at the weak mark " + place, NONE, x.laid(0));
            s.due("twelve, all but one either", 12, x.meter(12, 531440 - power));
            s.due("a full one at the strong mark " + place, 0, x.laid(0));
        }
        VerseBench y = said(row(v(1, 2)), row(v(1, 0)));
        Dues.lineOf(y, 0, 1);
        s.due("strong, weak", 2, y.meter(2, 1));
        s.due("in order", 0, y.laid(0));
        s.due("weak, strong", 2, y.meter(2, 3));
        s.due("turned", 3, y.laid(0));
        s.promise(15, "BAD (marks below 0, or more than told, too).");
        Supplier<VerseBench> made = EdgesOfWords::rich;
        for (int wrong : new int[] {0, -1, 13, LOW, HIGH}) s.refused("n " + wrong, BAD, made, x -> x.meter(wrong, 0));
        int most = 1;
        for (int n = 1; n <= 12; n++) {
            int told = n;
            int above = most * 3;
            most = above;
            s.due("the most of " + n, n, made.get().meter(n, above - 1));
            s.refused("more than " + n, BAD, made, x -> x.meter(told, above));
            for (int wrong : new int[] {-1, LOW, HIGH}) s.refused("marks " + wrong, BAD, made, x -> x.meter(told, wrong));
        }
    }

    private void line() {
        s.promise(16, "One more LINE of n WORDS (1 .. 8), told as digits to the base 24, digit 0 the first: its number.");
        VerseBench x = words(24);
        long all = 0;
        for (int n = 1; n <= 8; n++) {
            all = all * 24 + 23 - n;
            s.due("of " + n, n - 1, x.line(n, all));
            for (int i = 0; i < n; i++) s.due("word " + i, 23 - n + i, x.inLine(n - 1, i));
        }
        s.due("the greatest number", 8, x.line(8, 110075314175L));
        for (int i = 0; i < 8; i++) s.due("word " + i, 23, x.inLine(8, i));
        for (int line = 9; line < 16; line++) s.due("the least number", line, x.line(8, 0));
        s.promise(16, "BAD: n, a WORD that there is not, words below 0, or more than told;");
        Supplier<VerseBench> made = EdgesOfWords::rich;
        for (int wrong : new int[] {0, -1, 9, LOW, HIGH}) s.refused("n " + wrong, BAD, made, y -> y.line(wrong, 0));
        long power = 1;
        for (int n = 1; n <= 8; n++) {
            int told = n;
            long last = power;
            power *= 24;
            long above = power;
            s.refused("no such word, the last of " + n, BAD, made, y -> y.line(told, 6 * last));
            s.due("the last word, the last of " + n, 5, made.get().line(n, 5 * last));
            s.refused("no such word, the first of " + n, BAD, made, y -> y.line(told, 6));
            s.refused("more than " + n, BAD, made, y -> y.line(told, above));
            for (long wrong : new long[] {-1, Long.MIN_VALUE, Long.MAX_VALUE}) s.refused("words " + wrong, BAD, made, y -> y.line(told, wrong));
        }
        s.due("more than told, with all words", BAD, words(24).line(8, 110075314176L));
        s.due("beyond an int", BAD, words(24).line(1, 1L << 32));
        s.due("no words at all", BAD, new VerseBench().line(1, 0));
        s.promise(16, "FULL.");
        s.refused("a 17th", FULL, EdgesOfWords::fullOfLines, y -> y.line(1, 0));
    }

    private void inLine() {
        s.promise(17, "WORD i of a LINE.");
        VerseBench x = words(24);
        Dues.lineOf(x, 23, 0, 5, 1, 2, 3, 4, 22);
        for (int line = 1; line < 15; line++) Dues.lineOf(x, 1);
        Dues.lineOf(x, 9);
        int[] want = {23, 0, 5, 1, 2, 3, 4, 22};
        for (int i = 0; i < 8; i++) s.due("word " + i, want[i], x.inLine(0, i));
        s.due("the last line", 9, x.inLine(15, 0));
        s.promise(17, "BAD: line, i is below 0;");
        for (int wrong : new int[] {-1, 16, LOW, HIGH}) s.due("line " + wrong, BAD, x.inLine(wrong, 0));
        for (int wrong : new int[] {-1, 5, 16, LOW, HIGH}) s.refused("line " + wrong, BAD, EdgesOfWords::rich, y -> y.inLine(wrong, 0));
        for (int wrong : new int[] {-1, LOW}) s.refused("i " + wrong, BAD, EdgesOfWords::rich, y -> y.inLine(0, wrong));
        s.due("no lines", BAD, new VerseBench().inLine(0, 0));
        s.promise(17, "NONE: it has not so many.");
        for (int i : new int[] {8, 9, HIGH}) s.due("of eight, " + i, NONE, x.inLine(0, i));
        for (int i : new int[] {1, 7, 8, HIGH}) s.due("of one, " + i, NONE, x.inLine(15, i));
    }

    private void layings() {
        s.promise(18, "How many LAYINGS a LINE has (1000000 at most).");
        s.due("none", 0, stressed(2).layings(0));
        VerseBench below = vowels(ways(row(0, 0, 0, 0), row(0, 0, 0, 0), row(0, 0, 0, 0)), ways(row(0, 0), row(1, 0, 2)), ways(row(2)));
        Dues.lineOf(below, 2, 0, 0, 2, 1, 1, 0);
        Dues.marks(below, 2, 2, 2, 2, 2, 2, 2, 2, 2, 2);
        s.due("one less", 999999, below.layings(0));
        VerseBench just = vowels(ways(row(0, 0, 1), row(0), row(0, 0, 0)));
        Dues.lineOf(just, 0, 0, 0, 0, 0, 0, 0, 0);
        Dues.marks(just, 2, 1, 2, 2, 2, 2, 2, 1, 2, 1);
        s.due("just so many", 1000000, just.layings(0));
        VerseBench above = vowels(ways(row(0, 0)), ways(row(0, 2, 0), row(0, 0, 0), row(2, 0, 2)));
        Dues.lineOf(above, 1, 1, 1, 1, 0, 1, 1);
        Dues.marks(above, 2, 2, 2, 2, 2, 1, 2, 0, 2, 2, 2, 2);
        s.due("one more", 1000000, above.layings(0));
        VerseBench most = vowels(ways(twelveOf(0), twelveOf(0), twelveOf(0)));
        Dues.lineOf(most, 0, 0, 0, 0, 0, 0, 0, 0);
        Dues.marks(most, 2, 2, 2, 2, 2, 2, 2, 2, 2, 2, 2, 2);
        s.due("more than a long could count", 1000000, most.layings(0));
        s.due("and the least of them", 83 * 2 + 1, most.laid(0));
        s.promise(18, " BAD.");
        for (int wrong : new int[] {-1, 5, 16, LOW, HIGH}) s.refused("line " + wrong, BAD, EdgesOfWords::rich, x -> x.layings(wrong));
        s.due("no lines", BAD, new VerseBench().layings(0));
    }

    private static int[] twelveOf(int stress) {
        return row(stress, stress, stress, stress, stress, stress, stress, stress, stress, stress, stress, stress);
    }

    private void laid() {
        s.promise(19, "The cost of THE LAYING;");
        VerseBench x = stressed(2, 0);
        Dues.marks(x, 1, 0);
        s.due("none of cost", 0, x.laid(0));
        Dues.marks(x, 1);
        s.due("a tail", 1, x.laid(0));
        Dues.marks(x, 0, 1);
        s.due("turned", 3, x.laid(0));
        s.promise(19, " NONE.");
        Dues.marks(x, 1, 1);
        s.due("no laying", NONE, x.laid(0));
        VerseBench y = words(1);
        Dues.lineOf(y, 0);
        s.due("a word that is not said", NONE, y.laid(0));
        s.promise(19, " BAD.");
        for (int wrong : new int[] {-1, 5, 16, LOW, HIGH}) s.refused("line " + wrong, BAD, EdgesOfWords::rich, z -> z.laid(wrong));
        s.due("no lines", BAD, new VerseBench().laid(0));
    }

    private void fill() {
        s.promise(20, "FILL i of a GAP: of a LINE at a place, from a HEAP, RHYMING with a WORD (NONE: any).");
        VerseBench x = gap();
        dueFills("any", x, 0, 6 + 1, NONE, 1, 2, 3);
        dueFills("rhyming with word 4", x, 0, 6 + 1, 4, 1, 2);
        dueFills("rhyming with word 0", x, 0, 6 + 1, 0);
        VerseBench all = words(24);
        for (int w = 0; w < 24; w++) Dues.say(all, w, 10 + w, v(1, 0));
        Dues.lineOf(all, 0);
        int[] fills = new int[23];
        for (int i = 0; i < 23; i++) fills[i] = i;
        dueFills("all but word 23", all, 0, 0, 23, fills);
        s.due("the last of all", 23, all.fill(0, 0, NONE, 23));
        s.promise(20, "NONE: there are not so many.");
        for (int i : new int[] {24, 25, HIGH}) s.due("fill " + i, NONE, all.fill(0, 0, NONE, i));
        for (int i : new int[] {3, 4, HIGH}) s.due("fill " + i, NONE, x.fill(0, 6 + 1, NONE, i));
        s.promise(20, "placeHeap is 6 * place, and heap.");
        VerseBench y = words(0);
        for (int w = 0; w < 12; w++) y.word(w % 6);
        for (int w = 0; w < 12; w++) Dues.say(y, w, v(1, w < 6 ? 1 : 2));
        Dues.lineOf(y, 0, 0, 0, 0, 0, 0, 0, 0);
        // only where the one strong mark among weak ones is may a full one stand
        for (int place = 0; place < 8; place++) {
            int[] marks = new int[8];
            marks[place] = STRONG;
            Dues.marks(y, marks);
            for (int heap = 0; heap < 6; heap++) {
                s.due("place " + place + ", heap " + heap, heap, y.fill(0, 6 * place + heap, NONE, 0));
                s.due("place " + place + ", heap " + heap + ", full", heap + 6, y.fill(0, 6 * place + heap, NONE, 1));
                s.due("another place", NONE, y.fill(0, 6 * ((place + 1) % 8) + heap, NONE, 1));
            }
        }
    }

    private void refusedFills() {
        s.promise(20, "BAD: also i is below 0, the place is not in the LINE.");
        Supplier<VerseBench> made = EdgesOfWords::rich;
        for (int wrong : new int[] {-1, 5, 16, LOW, HIGH}) s.refused("line " + wrong, BAD, made, x -> x.fill(wrong, 0, NONE, 0));
        for (int wrong : new int[] {-1, -6, 12, 17, 48, LOW, HIGH}) s.refused("placeHeap " + wrong, BAD, made, x -> x.fill(0, wrong, NONE, 0));
        for (int wrong : new int[] {-2, 6, 24, LOW, HIGH}) s.refused("rhyme " + wrong, BAD, made, x -> x.fill(0, 0, wrong, 0));
        for (int wrong : new int[] {-1, LOW}) s.refused("i " + wrong, BAD, made, x -> x.fill(0, 0, NONE, wrong));
        VerseBench y = said(row(v(1, 1)));
        Dues.lineOf(y, 0);
        Dues.lineOf(y, 0, 0, 0, 0, 0, 0, 0, 0);
        s.due("the only place", 0, y.fill(0, 0, NONE, 0));
        s.due("the only place, heap 5", NONE, y.fill(0, 5, NONE, 0));
        s.due("the second place of one", BAD, y.fill(0, 6, NONE, 0));
        Dues.marks(y, 2, 2, 2, 2, 2, 2, 2, 2);
        s.due("the eighth place", 0, y.fill(1, 42, NONE, 0));
        s.due("the eighth place, heap 5", NONE, y.fill(1, 47, NONE, 0));
        s.due("the ninth place of eight", BAD, y.fill(1, 48, NONE, 0));
    }
}
