/** Each promise of the document by itself: ordinary inputs, the edges that it names, wrong inputs. */
public final class PromisesTest extends Benches {
    private static final Dues DUES = new Dues("PromisesTest");

    private static void due(String call, int want, int got) {
        DUES.due(call, want, got);
    }

    private static void promise1NewObject() {
        VerseBench x = new VerseBench();
        int[] constants = {VerseBench.NONE, VerseBench.BAD, VerseBench.NO, VerseBench.FULL, VerseBench.SPENT, VerseBench.NOTHING, VerseBench.INDEX, VerseBench.SIZE};
        int[] want = {NONE, BAD, -4, FULL, SPENT, NOTHING, INDEX, SIZE};
        for (int k = 0; k < want.length; k++) due("1 constant " + k, want[k], constants[k]);
        for (int what : new int[] {0, 1, 2, 4, 5, 6}) due("1 count(" + what + ")", 0, x.count(what));
        due("1 count(3)", 1, x.count(3));
        due("1 check()", 0, x.check());
        for (int sound = 0; sound < 40; sound++) due("1 speech as it is", sound, x.speech(sound, sound));
        due("1 near", 10, x.near(10));
        due("1 loose", 0, x.loose(0));
        // the one mark is weak
        x.word(0);
        Dues.say(x, 0, v(1, 0));
        x.line(1, 0);
        due("1 laid on a weak mark", 0, x.laid(0));
        due("1 a weak mark, or headless with a tail", 2, x.layings(0));
        x.word(0);
        Dues.say(x, 1, v(1, 2));
        x.line(1, 1);
        due("1 a strong syllable", NONE, x.laid(1));
    }

    private static void promise2Word() {
        VerseBench x = new VerseBench();
        for (int wrong : new int[] {-1, 6, LOW, HIGH}) due("2 word(" + wrong + ")", BAD, x.word(wrong));
        for (int k = 0; k < 24; k++) due("2 word", k, x.word(k % 6));
        due("2 a 25th", FULL, x.word(0));
        due("2 BAD stands ahead of FULL", BAD, x.word(6));
        due("2 count", 24, x.count(0));
    }

    private static void promise3Saying() {
        VerseBench x = words(2);
        for (int wrong : new int[] {-1, 2, LOW, HIGH}) due("3 word", BAD, x.saying(wrong, 1, 0, 0));
        for (int wrong : new int[] {0, -1, 13, LOW, HIGH}) due("3 n", BAD, x.saying(0, wrong, 0, 0));
        for (int told = 0; told < 256; told++) {
            boolean fine = told < 40 || (told >= 40 && told < 50) || (told >= 80 && told < 90);
            VerseBench y = words(1);
            due("3 byte " + told, fine ? 0 : BAD, Dues.say(y, 0, 0, told));
            due("3 byte " + told + " alone", fine && told % 40 < 10 ? 0 : BAD, Dues.say(words(1), 0, told));
        }
        due("3 a byte in the second long", BAD, Dues.say(x, 0, 0, 10, 10, 10, 10, 10, 10, 10, 10, 10, 10, 50));
        due("3 bytes that are not asked for", 0, x.saying(0, 1, -256, -1));
        due("3 bytes of second that are not asked for", 1, x.saying(0, 9, 0, -256));
        due("3 twelve", 2, Dues.say(x, 0, 10, 11, 12, 13, 14, 15, 16, 17, 18, 19, 20, v(9, 2)));
        due("3 a vowel in the ninth place", v(9, 2) % 40, x.told(0, 2, 15));
        due("3 a fourth", FULL, Dues.say(x, 0, 0));
        due("3 BAD stands ahead of FULL", BAD, Dues.say(x, 0, 10));
        due("3 of another word", 0, Dues.say(x, 1, 0));
        due("3 count", 4, x.count(1));
    }

    private static void promise4Writing() {
        VerseBench x = words(1);
        for (int wrong : new int[] {-1, 1, LOW, HIGH}) due("4 word", BAD, x.writing(wrong, 1));
        due("4 word ahead of size", BAD, x.writing(1, -1));
        due("4 nine", BAD, x.writing(0, 9));
        due("4 many", BAD, x.writing(0, HIGH));
        due("4 below", SIZE, x.writing(0, -1));
        due("4 far below", SIZE, x.writing(0, LOW));
        due("4 still missing", 0, x.count(6));
        due("4 none", 0, x.writing(0, 0));
        due("4 there", 1, x.count(6));
        due("4 without places", INDEX, x.spell(0, 0, 1));
        due("4 eight", 8, x.writing(0, 8));
        for (int k = 0; k < 8; k++) due("4 all 0", 1000, x.spell(0, k, k + 1));
        due("4 a refused one", SIZE, x.writing(0, -1));
        due("4 changes nothing", 1008, x.spell(0, 7, 8));
        due("4 anew", 8, x.writing(0, 8));
        for (int k = 0; k < 8; k++) due("4 all 0 again", 1000, x.spell(0, k, 0));
    }

    private static void promise5Spell() {
        VerseBench x = words(2);
        x.writing(0, 2);
        for (int wrong : new int[] {-1, 2, LOW, HIGH}) due("5 word", BAD, x.spell(wrong, 9, 999));
        due("5 missing", NOTHING, x.spell(1, 9, 999));
        for (int wrong : new int[] {-1, 2, LOW, HIGH}) due("5 place", INDEX, x.spell(0, wrong, 999));
        for (int wrong : new int[] {-129, 128, LOW, HIGH}) due("5 v", BAD, x.spell(0, 1, wrong));
        due("5 first", 1000, x.spell(0, 1, -128));
        due("5 with its sign", 872, x.spell(0, 1, 127));
        due("5 most", 1127, x.spell(0, 1, -1));
        due("5 below", 999, x.spell(0, 1, 0));
        due("5 other place", 1000, x.spell(0, 0, 0));
    }

    private static void dueWriting(VerseBench x, int word, int... bytes) {
        for (int k = 0; k < bytes.length; k++) due("6 byte " + k, 1000 + bytes[k], x.spell(word, k, bytes[k]));
    }

    private static void promise6Copy() {
        VerseBench x = written(1, -2, 3, 4);
        x.writing(1, 6);
        for (int wrong : new int[] {-1, 3, LOW, HIGH}) {
            due("6 from", BAD, x.copy(wrong, 2, -1, -1));
            due("6 to", BAD, x.copy(2, wrong, -1, -1));
        }
        due("6 from is missing", NOTHING, x.copy(2, 1, -1, -1));
        due("6 to is missing", NOTHING, x.copy(1, 2, -1, -1));
        for (int wrong : new int[] {-1, 5, LOW, HIGH}) due("6 many", INDEX, x.copy(0, 1, 0, wrong));
        for (int wrong : new int[] {-1, 7, LOW, HIGH}) due("6 place", INDEX, x.copy(0, 1, wrong, 0));
        due("6 beyond the end of to", INDEX, x.copy(0, 1, 3, 4));
        due("6 beyond what a number holds", INDEX, x.copy(0, 1, HIGH, 4));
        dueWriting(x, 1, 0, 0, 0, 0, 0, 0);
        due("6 none, at the end", 0, x.copy(0, 1, 6, 0));
        due("6 none of a row without places", 0, written().copy(0, 0, 0, 0));
        due("6 to the end", 4, x.copy(0, 1, 2, 4));
        dueWriting(x, 1, 0, 0, 1, -2, 3, 4);
        due("6 from the first on", 2, x.copy(1, 0, 1, 2));
        dueWriting(x, 0, 1, 0, 0, 4);
        VerseBench y = written(1, 2, 3, 4, 5, 6, 7, 8);
        due("6 over itself", 6, y.copy(0, 0, 2, 6));
        dueWriting(y, 0, 1, 2, 1, 2, 3, 4, 5, 6);
    }

    private static void promise7Speech() {
        VerseBench x = said(row(10, v(1, 2), 39));
        for (int wrong : new int[] {-1, 40, LOW, HIGH}) {
            due("7 sound", BAD, x.speech(wrong, 1));
            due("7 said", BAD, x.speech(1, wrong));
        }
        due("7 beyond the last sound", BAD, x.speech(40, 39));
        due("7 said beyond the last sound", BAD, x.speech(39, 40));
        due("7 a vowel and one that is none", BAD, x.speech(9, 10));
        due("7 one that is none and a vowel", BAD, x.speech(10, 9));
        due("7 vowels", 1, x.speech(1, 9));
        due("7 others", 10, x.speech(10, 39));
        due("7 others again", 39, x.speech(10, 11));
        due("7 last", 39, x.speech(39, 10));
        due("7 heard", 11, x.told(0, 0, 4));
        due("7 heard vowel", 9, x.told(0, 0, 5));
        due("7 once", 10, x.told(0, 0, 6));
        due("7 the stress stays", 2, x.told(0, 0, 3));
        Dues.say(x, 0, v(1, 0));
        due("7 of later sayings too", 9, x.told(0, 1, 4));
    }

    private static void promise8Told() {
        VerseBench x = said(row(10, v(1, 1), 11, v(2, 1), 12, v(3, 0), 13), row(v(4, 2)));
        int[] want = {7, 3, 3, 1, 10, 1, 11, 2, 12, 3, 13, INDEX, INDEX, INDEX, INDEX, INDEX};
        for (int what = 0; what < 16; what++) due("8 what " + what, want[what], x.told(0, 0, what));
        int[] single = {1, 1, 0, 2, 4, INDEX};
        for (int what = 0; what < 6; what++) due("8 of one vowel " + what, single[what], x.told(1, 0, what));
        for (int wrong : new int[] {-1, 16, LOW, HIGH}) due("8 what", BAD, x.told(0, 0, wrong));
        for (int wrong : new int[] {-1, 1, LOW, HIGH}) due("8 saying", BAD, x.told(0, wrong, 15));
        for (int wrong : new int[] {-1, 2, LOW, HIGH}) due("8 word", BAD, x.told(wrong, 0, 0));
        Dues.say(x, 0, v(0, 0), v(1, 0), 10);
        due("8 tail of weak ones", 1, x.told(0, 1, 2));
        Dues.say(x, 0, v(0, 2), v(1, 1), v(2, 2), v(3, 1));
        due("8 the last of the greatest", 2, x.told(0, 2, 2));
        due("8 syllables", 4, x.told(0, 2, 1));
    }

    private static void promise9Near() {
        VerseBench x = said(row(v(1, 2)), row(v(2, 2)));
        due("9 first", 10, x.near(100));
        due("9 most", 100, x.near(0));
        for (int wrong : new int[] {-1, 101, LOW, HIGH}) due("9 wrong", BAD, x.near(wrong));
        due("9 three is more than none", 0, x.rhyme(0, 1, 4));
        due("9 least", 0, x.near(3));
        due("9 three is not more", 1, x.rhyme(0, 1, 4));
    }

    /** The kinds by which words 0 and 1 rhyme, a bit for each. */
    private static int kinds(VerseBench x) {
        int bits = 0;
        for (int kind = 0; kind <= 6; kind++) {
            int answer = x.rhyme(0, 1, kind);
            due("10 the other way round", answer, x.rhyme(1, 0, kind));
            if (answer == 1) bits |= 1 << kind;
        }
        return bits;
    }

    private static void promise10Rhyme() {
        final int plain = 1, rich = 2, vowels = 4, ends = 8, near = 16, eye = 32, perfect = 64;
        due("10 rhyme", plain | vowels | ends | near | perfect, kinds(said(row(10, v(1, 2), 12), row(11, v(1, 2), 12))));
        due("10 stresses do not matter", plain | vowels | ends | near | perfect, kinds(said(row(10, v(1, 2), 12), row(11, v(1, 0), 12))));
        due("10 ahead: one none", plain | vowels | ends | near | perfect, kinds(said(row(10, v(1, 2), 12), row(v(1, 2), 12))));
        due("10 rich", rich | vowels | ends | near | perfect, kinds(said(row(9, 10, v(1, 2), 12), row(10, v(1, 2), 12))));
        due("10 ahead: both none", rich | vowels | near | perfect, kinds(said(row(v(1, 2)), row(v(1, 0)))));
        due("10 vowels, near by 3", vowels | near, kinds(said(row(10, v(1, 2), 12), row(10, v(1, 2), 17))));
        due("10 vowels, near by 6", vowels | near, kinds(said(row(10, v(1, 2), 12), row(10, v(1, 2), 16))));
        due("10 ends alone", ends, kinds(said(row(v(1, 2), 12, 13), row(v(1, 2), v(2, 0), v(2, 0), 12, 13))));
        due("10 nothing behind the last vowel", near, kinds(said(row(v(1, 2)), row(v(2, 2)))));
        due("10 one ends, one does not", vowels | near, kinds(said(row(v(1, 2)), row(v(1, 2), 12))));
        due("10 more vowels", near, kinds(said(row(v(1, 2)), row(v(1, 2), v(1, 0)))));
        due("10 other order", near, kinds(said(row(v(1, 2), v(2, 0)), row(v(2, 2), v(1, 0)))));
        due("10 tails alone count", rich | vowels | ends | near | perfect, kinds(said(row(v(3, 0), 10, v(1, 2), 12), row(v(4, 1), 10, v(1, 2), 12))));
        due("10 no sayings", 0, kinds(words(2)));
        VerseBench x = words(2);
        Dues.say(x, 0, v(1, 2));
        due("10 one without sayings", 0, kinds(x));
        eyes(eye);
        VerseBench y = said(row(10, v(1, 2), 12), row(11, v(2, 2), 13));
        y.speech(2, 1);
        y.speech(13, 12);
        due("10 as they sound", plain | vowels | ends | near | perfect, kinds(y));
        y.speech(11, 10);
        due("10 as it sounds ahead", rich | vowels | ends | near | perfect, kinds(y));
        for (int kind = 0; kind <= 6; kind++) due("10 never with itself", 0, y.rhyme(0, 0, kind));
        for (int wrong : new int[] {-1, 2, LOW, HIGH}) {
            due("10 w", BAD, y.rhyme(wrong, 0, 0));
            due("10 u", BAD, y.rhyme(0, wrong, 0));
        }
        for (int wrong : new int[] {-1, 7, LOW, HIGH}) due("10 kind", BAD, y.rhyme(0, 1, wrong));
    }

    private static void eyes(int eye) {
        VerseBench x = written(9, 1, 2, 3);
        due("10 eye: missing", 0, kinds(x));
        x.writing(1, 2);
        x.spell(1, 0, 2);
        x.spell(1, 1, 3);
        due("10 eye: two bytes", 0, kinds(x));
        x.writing(1, 3);
        x.copy(0, 1, 0, 3);
        due("10 eye: others", 0, kinds(x));
        for (int k = 0; k < 3; k++) x.spell(1, k, k + 1);
        due("10 eye: the last three", eye, kinds(x));
        for (int k = 0; k < 3; k++) {
            x.spell(1, k, 9);
            due("10 eye: one of three is another", 0, kinds(x));
            x.spell(1, k, k + 1);
        }
    }

    private static void promise11How() {
        VerseBench x = words(3);
        Dues.say(x, 0, v(1, 2));
        Dues.say(x, 0, v(2, 2));
        Dues.say(x, 0, v(3, 2), 10);
        Dues.say(x, 1, v(3, 2), 11);
        Dues.say(x, 1, 10, v(2, 2));
        Dues.say(x, 1, v(1, 2));
        due("11 rich", 2, x.how(0, 1, 1));
        due("11 the first by w, then by u", 2, x.how(0, 1, 6));
        due("11 rhyme", 4, x.how(0, 1, 0));
        due("11 the other way round", 4, x.how(1, 0, 0));
        due("11 the other way round, rich", 6, x.how(1, 0, 1));
        due("11 vowels", 2, x.how(0, 1, 2));
        due("11 ends", NONE, x.how(0, 1, 3));
        due("11 itself", NONE, x.how(0, 0, 1));
        due("11 no sayings", NONE, x.how(0, 2, 4));
        due("11 eye: missing", NONE, x.how(0, 1, 5));
        x.writing(0, 3);
        x.writing(1, 4);
        due("11 eye", 0, x.how(0, 1, 5));
        due("11 eye of itself", NONE, x.how(0, 0, 5));
        Dues.say(x, 2, v(3, 2), 10);
        due("11 the third of w", 6, x.how(0, 2, 6));
        for (int wrong : new int[] {-1, 3, LOW, HIGH}) {
            due("11 w", BAD, x.how(wrong, 0, 0));
            due("11 u", BAD, x.how(0, wrong, 0));
        }
        for (int wrong : new int[] {-1, 7, LOW, HIGH}) due("11 kind", BAD, x.how(0, 1, wrong));
    }

    private static void dueCost(String what, int want, int[] a, int[] b) {
        VerseBench x = said(a, b);
        due("12 " + what, want, x.cost(0, 1));
        due("12 " + what + ", the other way round", want, x.cost(1, 0));
    }

    private static void promise12Cost() {
        dueCost("alike", 0, row(10, v(1, 2), 12), row(v(1, 1), 12));
        dueCost("vowels", 3, row(v(1, 2)), row(v(9, 2)));
        dueCost("one number modulo 5", 3, row(v(1, 2), 10), row(v(1, 2), 35));
        dueCost("others", 6, row(v(1, 2), 10), row(v(1, 2), 36));
        dueCost("one left out", 5, row(v(1, 2), 10), row(v(1, 2)));
        dueCost("a vowel left out", 8, row(v(1, 2), v(2, 0)), row(v(1, 2)));
        dueCost("a vowel never for one that is none", 13, row(v(1, 2), 10), row(v(1, 2), v(2, 0)));
        dueCost("left out and put in", 10, row(v(1, 2), 10, 11), row(v(1, 2), 11, 12));
        dueCost("all of it", 3 + 11 * 5, row(v(1, 2), 10, 11, 12, 13, 14, 15, 16, 17, 18, 19, 20), row(v(2, 2)));
        dueCost("many vowels", 11 * 8, row(v(1, 2), 1, 1, 1, 1, 1, 1, 1, 1, 1, 1, 1), row(v(1, 2)));
        VerseBench x = words(3);
        due("12 no sayings", NONE, x.cost(0, 1));
        Dues.say(x, 0, v(1, 2), 10);
        due("12 one has none", NONE, x.cost(0, 1));
        due("12 one twice", 0, x.cost(0, 0));
        due("12 one twice without", NONE, x.cost(1, 1));
        Dues.say(x, 1, v(2, 2), 11);
        due("12 three and six", 9, x.cost(0, 1));
        Dues.say(x, 1, v(2, 2), 10);
        due("12 the least", 3, x.cost(0, 1));
        x.speech(10, 11);
        due("12 as they sound", 3, x.cost(0, 1));
        x.speech(2, 1);
        due("12 as vowels sound", 0, x.cost(0, 1));
        for (int wrong : new int[] {-1, 3, LOW, HIGH}) {
            due("12 w", BAD, x.cost(wrong, 0));
            due("12 u", BAD, x.cost(0, wrong));
        }
    }

    private static void promise13Rhymes() {
        VerseBench x = said(row(10, v(1, 2), 12), row(10, v(1, 2), 17), row(11, v(1, 2), 12), row(10, v(1, 2), 22), row(11, v(2, 2)), row(10, v(1, 2), 12));
        int[] byCost = {2, 5, 1, 3, 4};
        for (int i = 0; i < 5; i++) due("13 by cost, then by number", byCost[i], x.rhymes(0, 4, i));
        due("13 not so many", NONE, x.rhymes(0, 4, 5));
        due("13 far from so many", NONE, x.rhymes(0, 4, HIGH));
        x.near(7);
        due("13 within near", 3, x.rhymes(0, 4, 3));
        due("13 beyond near", NONE, x.rhymes(0, 4, 4));
        due("13 rhyme", 2, x.rhymes(0, 0, 0));
        due("13 one only", NONE, x.rhymes(0, 0, 1));
        due("13 rich", 5, x.rhymes(0, 1, 0));
        due("13 perfect", 2, x.rhymes(0, 6, 0));
        due("13 perfect", 5, x.rhymes(0, 6, 1));
        int[] vowels = {1, 2, 3, 5, NONE};
        for (int i = 0; i < 5; i++) due("13 vowels", vowels[i], x.rhymes(0, 2, i));
        due("13 word 0 is one too", 0, x.rhymes(2, 6, 0));
        x.near(3);
        due("13 at near", 3, x.rhymes(0, 4, 3));
        x.near(2);
        due("13 just beyond near", NONE, x.rhymes(0, 4, 2));
        due("13 none at all", NONE, x.rhymes(4, 3, 0));
        due("13 eye", NONE, x.rhymes(0, 5, 0));
        x.writing(0, 3);
        x.writing(4, 3);
        due("13 eye", 4, x.rhymes(0, 5, 0));
        for (int wrong : new int[] {-1, 6, LOW, HIGH}) due("13 w", BAD, x.rhymes(wrong, 0, 0));
        for (int wrong : new int[] {-1, 7, LOW, HIGH}) due("13 kind", BAD, x.rhymes(0, wrong, 0));
        for (int kind = 0; kind <= 6; kind++) due("13 i", BAD, x.rhymes(0, kind, -1));
        due("13 i", BAD, x.rhymes(0, 4, LOW));
    }

    private static void duePairs(String what, VerseBench x, int w, int... pairs) {
        for (int i = 0; i < pairs.length; i++) due("14 " + what + " " + i, pairs[i], x.broken(w, i));
        due("14 " + what + ": no more", NONE, x.broken(w, pairs.length));
    }

    private static void promise14Broken() {
        int[] whole = row(10, v(1, 2), 12, v(2, 0), 13);
        duePairs("over two words", said(whole, row(v(1, 2), 12), row(v(2, 0), 13)), 0, 24 + 2, 2 * 24);
        duePairs("half becomes weak", said(whole, row(v(1, 2), 12), row(v(2, 1), 13)), 0, 24 + 2, 2 * 24);
        duePairs("full becomes half", said(whole, row(v(1, 1), 12), row(v(2, 2), 13)), 0, 24);
        duePairs("full above half", said(whole, row(v(1, 2), 12), row(v(2, 2), 13)), 0, 24 + 2);
        // the tail of the second is from its last vowel on, as its half stress is weak there
        duePairs("half in the second", said(row(v(2, 2), 13), row(v(5, 0)), row(v(7, 1), 11, v(2, 0), 13)), 0, 24, 24 + 2, 2 * 24);
        duePairs("with itself twice", said(row(v(1, 0))), 0, 0);
        duePairs("as they sound", spoken(), 0, 24 + 2, 2 * 24);
        duePairs("no sayings", words(2), 0);
        VerseBench x = said(whole, row(v(9, 2)), row(v(9, 0)));
        Dues.say(x, 1, v(1, 2), 12);
        Dues.say(x, 2, v(8, 0));
        Dues.say(x, 2, v(2, 0), 13);
        duePairs("by any sayings", x, 0, 24 + 2, 2 * 24);
        due("14 far from so many", NONE, x.broken(0, HIGH));
        for (int wrong : new int[] {-1, 3, LOW, HIGH}) due("14 w", BAD, x.broken(wrong, 0));
        for (int wrong : new int[] {-1, LOW}) due("14 i", BAD, x.broken(0, wrong));
        int[] twelve = row(10, 11, 12, 13, 14, 15, 16, 17, 18, 19, 20, v(1, 2));
        duePairs("of 24 sounds", said(twelve), 0);
        int[] weak = row(10, 11, 12, 13, 14, 15, 16, 17, 18, 19, 20, v(1, 1));
        duePairs("of 24 sounds, weak ones", said(row(v(1, 0)), weak, row(v(1, 0), 20)), 0, 0, 1, 2 * 24, 2 * 24 + 1);
    }

    private static VerseBench spoken() {
        VerseBench x = said(row(10, v(1, 2), 12, v(2, 0), 13), row(v(3, 2), 12), row(v(2, 0), 14));
        x.speech(3, 1);
        x.speech(14, 13);
        return x;
    }

    private static void promise15Meter() {
        VerseBench x = new VerseBench();
        for (int wrong : new int[] {0, -1, 13, LOW, HIGH}) due("15 n", BAD, x.meter(wrong, 0));
        int most = 1;
        for (int n = 1; n <= 12; n++) {
            most *= 3;
            due("15 most of " + n, n, x.meter(n, most - 1));
            due("15 all weak", n, x.meter(n, 0));
            due("15 more than told", BAD, x.meter(n, most));
            due("15 far more", BAD, x.meter(n, HIGH));
            due("15 below", BAD, x.meter(n, -1));
            due("15 far below", BAD, x.meter(n, LOW));
            due("15 count", n, x.count(3));
        }
        VerseBench y = said(row(v(1, 2)), row(v(1, 0)));
        Dues.lineOf(y, 0, 1);
        Dues.marks(y, 1, 0);
        due("15 digit 0 is the first", 0, y.laid(0));
        Dues.marks(y, 0, 1);
        due("15 the other way round", 3, y.laid(0));
        due("15 refused", BAD, y.meter(2, 9));
        due("15 changes nothing", 3, y.laid(0));
    }

    private static void promise16Line() {
        VerseBench x = words(3);
        for (int wrong : new int[] {0, -1, 9, LOW, HIGH}) due("16 n", BAD, x.line(wrong, 0));
        due("16 below", BAD, x.line(1, -1));
        due("16 far below", BAD, x.line(8, Long.MIN_VALUE));
        due("16 far above", BAD, x.line(8, Long.MAX_VALUE));
        due("16 no such word", BAD, x.line(2, 3 * 24));
        due("16 no such word first", BAD, x.line(2, 3));
        due("16 more than told", BAD, x.line(2, 24 * 24));
        due("16 more than told by far", BAD, x.line(1, 1L << 40));
        due("16 no words", BAD, new VerseBench().line(1, 0));
        due("16 none were made", 0, x.count(2));
        for (int k = 0; k < 16; k++) due("16 line", k, Dues.lineOf(x, 2, 1, 0, 0, 1, 2, 2, 1));
        due("16 a 17th", FULL, x.line(1, 0));
        due("16 BAD stands ahead of FULL", BAD, x.line(1, 3));
        VerseBench y = words(24);
        due("16 the last words", 0, y.line(8, 110075314175L));
        due("16 the last word", 23, y.inLine(0, 7));
        due("16 more than eight", BAD, y.line(8, 110075314176L));
    }

    private static void promise17InLine() {
        VerseBench x = words(24);
        Dues.lineOf(x, 23, 0, 5, 1, 2, 3, 4, 7);
        Dues.lineOf(x, 9);
        int[] want = {23, 0, 5, 1, 2, 3, 4, 7, NONE, NONE};
        for (int i = 0; i < want.length; i++) due("17 word " + i, want[i], x.inLine(0, i));
        due("17 first", 9, x.inLine(1, 0));
        due("17 second", NONE, x.inLine(1, 1));
        due("17 far", NONE, x.inLine(1, HIGH));
        for (int wrong : new int[] {-1, 2, LOW, HIGH}) due("17 line", BAD, x.inLine(wrong, 0));
        for (int wrong : new int[] {-1, LOW}) due("17 i", BAD, x.inLine(0, wrong));
    }

    private static void dueLaid(String what, int layings, int least, VerseBench x, int... marks) {
        Dues.marks(x, marks);
        due("18 " + what, layings, x.layings(0));
        due("19 " + what, least, x.laid(0));
    }

    private static void promises18And19Layings() {
        for (int wrong : new int[] {-1, 1, LOW, HIGH}) {
            due("18 line", BAD, stressed(0).layings(wrong));
            due("19 line", BAD, stressed(0).laid(wrong));
        }
        dueLaid("weak on strong", 0, NONE, stressed(0), 1);
        dueLaid("weak on either", 1, 0, stressed(0), 2);
        dueLaid("weak on weak, or headless and tail", 2, 0, stressed(0), 0);
        dueLaid("half on weak", 1, 0, stressed(1), 0);
        dueLaid("half on strong", 1, 0, stressed(1), 1);
        dueLaid("half on either", 1, 0, stressed(1), 2);
        dueLaid("full on weak", 0, NONE, stressed(2), 0);
        dueLaid("full on strong", 1, 0, stressed(2), 1);
        dueLaid("full on either", 1, 0, stressed(2), 2);
        dueLaid("too few", 0, NONE, stressed(2), 1, 1);
        dueLaid("too many", 0, NONE, stressed(2, 2), 1);
        dueLaid("turned, or headless with a tail or a slur", 3, 3, stressed(2, 0), 0, 1);
        dueLaid("turned in the midst", 1, 3, stressed(2, 2, 0), 1, 0, 1);
        dueLaid("turned twice", 1, 6, stressed(2, 2, 0, 2, 0), 1, 0, 1, 0, 1);
        dueLaid("not turned: either", 1, 0, stressed(2, 0), 2, 2);
        dueLaid("not turned: either for strong; headless with a tail or a slur", 2, 5, stressed(2, 0), 0, 2);
        dueLaid("not turned: either for weak", 0, NONE, stressed(2, 2, 0), 1, 2, 1);
        dueLaid("not turned: half", 0, NONE, stressed(2, 1, 2), 1, 0, 0);
        dueLaid("turned, then one that is slurred or a tail", 2, 4, stressed(2, 2, 0, 0), 1, 0, 1);
        dueLaid("headless, then turned", 1, 7, stressed(2, 0), 0, 0, 1);
        dueLaid("headless", 1, 4, stressed(2), 0, 1);
        dueLaid("headless: either is not weak", 0, NONE, stressed(2), 2, 1);
        dueLaid("slurred", 1, 2, stressed(2, 0, 2), 1, 1);
        dueLaid("slurred twice", 1, 4, stressed(2, 0, 0, 2), 1, 1);
        dueLaid("one of two is slurred", 2, 2, stressed(2, 0, 0, 2), 1, 0, 1);
        dueLaid("the first is never slurred", 0, NONE, stressed(0, 2), 1);
        dueLaid("the first is never slurred, the second is or is a tail", 2, 1, stressed(0, 0), 2);
        dueLaid("half is never slurred", 0, NONE, stressed(2, 1, 2), 1, 1);
        dueLaid("tail or slur", 2, 1, stressed(2, 0), 1);
        dueLaid("slurs behind the last mark, then a tail or a slur", 2, 5, stressed(2, 0, 0, 0), 1);
        dueLaid("half is no tail", 0, NONE, stressed(2, 1), 1);
        VerseBench two = words(1);
        Dues.say(two, 0, v(0, 0));
        Dues.say(two, 0, v(5, 0));
        Dues.say(two, 0, 10, v(5, 2), 11, v(6, 2));
        Dues.lineOf(two, 0);
        dueLaid("two that are said otherwise, by their numbers", 2, 0, two, 2);
        dueLaid("the third", 1, 0, two, 1, 1);
        Dues.lineOf(two, 0, 0);
        Dues.marks(two, 2, 2, 2);
        due("18 the same word in two ways", 4, two.layings(1));
        manyLayings();
        VerseBench unsaid = words(1);
        Dues.lineOf(unsaid, 0);
        dueLaid("no sayings", 0, NONE, unsaid, 0);
    }

    private static void manyLayings() {
        int[] weak = new int[12];
        VerseBench x = said(weak, row(v(0, 2)), row(v(0, 0)));
        // one full, then 12 weak: which of the last 12 have marks, and a tail for the last slur
        Dues.lineOf(x, 1, 0);
        dueLaid("6 of 12", 924 + 462, 11, x, 2, 2, 2, 2, 2, 2, 2);
        Dues.lineOf(x, 0, 0, 0, 0, 0, 0, 0, 0);
        Dues.marks(x, 2, 2, 2, 2, 2, 2, 2, 2, 2, 2, 2, 2);
        due("18 no more than a million", 1000000, x.layings(1));
        due("19 of very many", 83 * 2 + 1, x.laid(1));
        // the first of 24 has the first mark; of 23 others 10 have marks: 1144066 ways; or 8: 490314, and 319770 with a tail
        Dues.lineOf(x, 0, 0);
        Dues.marks(x, 2, 2, 2, 2, 2, 2, 2, 2, 2, 2, 2);
        due("18 above a million", 1000000, x.layings(2));
        Dues.marks(x, 2, 2, 2, 2, 2, 2, 2, 2, 2);
        due("18 below a million", 490314 + 319770, x.layings(2));
    }

    private static void promise20Fill() {
        VerseBench x = new VerseBench();
        int[] heaps = {0, 1, 1, 1, 5, 1};
        int[][] rows = {row(v(1, 0)), row(10, v(2, 2), 12), row(11, v(2, 2), 12), row(v(2, 2), 13), row(v(2, 2), 12), row(v(2, 0), 12)};
        for (int k = 0; k < heaps.length; k++) {
            x.word(heaps[k]);
            Dues.say(x, k, rows[k]);
        }
        x.word(1);
        Dues.lineOf(x, 0, 4);
        Dues.marks(x, 0, 1);
        int[] any = {1, 2, 3, NONE, NONE};
        for (int i = 0; i < any.length; i++) due("20 any " + i, any[i], x.fill(0, 6 + 1, NONE, i));
        int[] rhyming = {1, 2, NONE};
        for (int i = 0; i < rhyming.length; i++) due("20 rhyming " + i, rhyming[i], x.fill(0, 6 + 1, 4, i));
        due("20 never with itself", 2, x.fill(0, 6 + 1, 1, 0));
        due("20 never with itself", NONE, x.fill(0, 6 + 1, 1, 1));
        due("20 the word that was there", 4, x.fill(0, 6 + 5, NONE, 0));
        due("20 another heap", NONE, x.fill(0, 6 + 2, NONE, 0));
        due("20 the first place", 0, x.fill(0, 0, NONE, 0));
        due("20 the first place, by a licence", NONE, x.fill(0, 5, NONE, 0));
        due("20 far from so many", NONE, x.fill(0, 7, NONE, HIGH));
        due("20 one without sayings rhymes with none", NONE, x.fill(0, 7, 6, 0));
        for (int wrong : new int[] {-1, 1, LOW, HIGH}) due("20 line", BAD, x.fill(wrong, 0, NONE, 0));
        for (int wrong : new int[] {-1, 12, -6, LOW, HIGH}) due("20 place", BAD, x.fill(0, wrong, NONE, 0));
        for (int wrong : new int[] {-2, 7, LOW, HIGH}) due("20 rhyme", BAD, x.fill(0, 0, wrong, 0));
        for (int wrong : new int[] {-1, LOW}) due("20 i", BAD, x.fill(0, 0, NONE, wrong));
        due("20 the line stays", 4, x.inLine(0, 1));
    }

    private static void dueStands(String what, VerseBench x, int... lines) {
        for (int i = 0; i < lines.length; i++) due(what + ", place " + i, lines[i], x.stands(i));
    }

    private static void promise21Form() {
        VerseBench x = stanza(3);
        for (int wrong : new int[] {-1, 15, LOW, HIGH}) due("21 n", BAD, x.form(wrong));
        letters(x, 0, 1, 2);
        x.place(2, 2, 0);
        setAll(x, 0, 1, 0);
        x.loose(1);
        due("21 stands", 0, x.check());
        due("21 a form", 14, x.form(14));
        due("21 not loose", 0, x.loose(0));
        for (int i = 0; i < 14; i++) due("21 empty", NONE, x.stands(i));
        due("21 places", 14, x.count(4));
        setAll(x, 0, 1);
        due("21 all of letter 0", 15, x.check());
        x.set(1, 0);
        due("21 none again", 13, x.check());
        x.place(1, 1, NONE);
        x.form(2);
        x.place(1, 0, NONE);
        setAll(x, 0, 1);
        due("21 the first is of letter 0", 15, x.check());
        due("21 none", 0, x.form(0));
        due("21 of none", 0, x.check());
        due("21 a place of none", BAD, x.set(0, 0));
    }

    private static void promise22Place() {
        VerseBench x = stanza(3);
        for (int wrong : new int[] {-1, 3, LOW, HIGH}) due("22 place", BAD, x.place(wrong, 0, NONE));
        for (int wrong : new int[] {-1, 8, LOW, HIGH}) due("22 letter", BAD, x.place(0, wrong, NONE));
        for (int wrong : new int[] {-2, 1, 2, LOW, HIGH}) due("22 again", BAD, x.place(1, 0, wrong));
        due("22 the first has none ahead", BAD, x.place(0, 0, 0));
        due("22 the last letter", 0, x.place(2, 7, 1));
        setAll(x, 0, 2, 0);
        due("22 must be again", 22, x.check());
        due("22 refused", BAD, x.place(2, 0, 2));
        due("22 changes nothing", 22, x.check());
        due("22 the stanza stays", 0, x.place(2, 7, 0));
        due("22 is again", 0, x.check());
        due("22 no more", 0, x.place(2, 7, NONE));
        due("22 need not be again", 23, x.check());
    }

    private static void promise23Loose() {
        VerseBench x = said(row(v(1, 2), 12), row(v(1, 2), 16, 16, 16), row(v(2, 2), 12), row(v(3, 2), 20, 21));
        for (int k = 0; k < 4; k++) Dues.lineOf(x, k);
        Dues.marks(x, 1);
        x.form(2);
        setAll(x, 0, 1);
        for (int wrong : new int[] {-1, 2, LOW, HIGH}) due("23 on", BAD, x.loose(wrong));
        due("23 not loose", 15, x.check());
        due("23 was not", 0, x.loose(1));
        due("23 by vowels", 0, x.check());
        x.set(1, 2);
        due("23 near", 0, x.check());
        x.set(1, 3);
        due("23 neither", 15, x.check());
        x.near(14);
        due("23 as near is told", 0, x.check());
        due("23 was", 1, x.loose(0));
        due("23 no more", 15, x.check());
    }

    private static void promise24Set() {
        VerseBench x = stanza(2);
        for (int wrong : new int[] {-1, 2, LOW, HIGH}) due("24 place", BAD, x.set(wrong, 0));
        for (int wrong : new int[] {-2, 7, LOW, HIGH}) due("24 line", BAD, x.set(0, wrong));
        due("24 was empty", NONE, x.set(1, 6));
        due("24 was 6", 6, x.set(1, 0));
        due("24 was 0", 0, x.set(1, NONE));
        due("24 was empty again", NONE, x.set(1, NONE));
        due("24 the other", NONE, x.stands(0));
    }

    private static void dueCheck(String what, int want, VerseBench x, int... lines) {
        setAll(x, lines);
        due("25 " + what, want, x.check());
    }

    private static void promise25Check() {
        VerseBench x = stanza(4);
        letters(x, 0, 1, 0, 1);
        dueCheck("empty", 1, x);
        dueCheck("all is well", 0, x, 0, 1, 2, 3);
        dueCheck("the third is empty", 21, x, 0, 1, NONE, NONE);
        dueCheck("does not rhyme", 25, x, 0, 1, 3, 2);
        dueCheck("stands ahead", 23, x, 0, 1, 0, 3);
        dueCheck("stands ahead, if it rhymes or not", 33, x, 0, 1, 2, 0);
        dueCheck("does not fit", 4, x, 6, 1, 2, 3);
        dueCheck("does not fit, though it rhymes", 24, x, 0, 1, 6, 3);
        dueCheck("the first place of several", 24, x, 0, 1, 6, NONE);
        dueCheck("does not fit, and stands ahead", 4, x, 6, 6, 6, 6);
        x.place(2, 0, 0);
        dueCheck("must be again", 22, x, 0, 1, 2, 3);
        dueCheck("must be again, and does not fit", 22, x, 0, 1, 6, 3);
        dueCheck("is again", 0, x, 0, 1, 0, 3);
        VerseBench y = stanza(5);
        letters(y, 0, 0, 0, 0, 0);
        y.place(2, 0, 0);
        dueCheck("with the nearest whose line is another, up to the last, that is empty", 41, y, 0, 2, 0, 4, NONE);
        y.place(3, 1, 0);
        dueCheck("again at another letter", 0, y, 0, 2, 0, 0, 4);
        y.place(3, 0, 0);
        y.place(2, 3, NONE);
        dueCheck("again, and nearest of its letter is another line", 0, y, 0, 2, 1, 0, 4);
        VerseBench z = stanza(3);
        letters(z, 0, 1, 1);
        z.place(2, 1, 0);
        dueCheck("again, but does not rhyme there", 25, z, 0, 1, 0);
        letters(z, 0, 0, 0);
        dueCheck("the nearest, not the first", 15, z, 0, 1, 3);
        sameLastWord();
        VerseBench u = stanza(1);
        dueCheck("it fits", 0, u, 0);
        Dues.marks(u, 0);
        due("25 another meter, and it does not", 4, u.check());
    }

    private static void sameLastWord() {
        VerseBench x = stanza(2);
        Dues.lineOf(x, 0);
        dueCheck("another line with the same last word", 15, x, 0, 7);
        dueCheck("the last word stands for the line", 0, x, 7, 2);
        VerseBench y = said(row(v(1, 2)), row(v(2, 2), 10, 11), row(10, v(2, 2), 10, 11));
        Dues.lineOf(y, 0, 1);
        Dues.lineOf(y, 0, 2);
        Dues.lineOf(y, 1, 0);
        Dues.marks(y, 1, 1);
        y.form(2);
        dueCheck("last words", 0, y, 0, 1);
        dueCheck("last words do not", 15, y, 0, 2);
    }

    private static void dueComplete(String what, int want, int tries, VerseBench x, int... after) {
        due("26 " + what, want, x.complete(tries));
        dueStands("26 " + what, x, after);
    }

    private static void promise26Complete() {
        VerseBench x = stanza(4);
        letters(x, 0, 1, 0, 1);
        for (int wrong : new int[] {0, -1, 20001, LOW, HIGH}) due("26 tries", BAD, x.complete(wrong));
        // 0; 0, 1; 0, 1, 2; 0, 1, 2, 3
        dueComplete("one try too few", SPENT, 9, x, NONE, NONE, NONE, NONE);
        dueComplete("just so many", 1, 10, x, 0, 1, 2, 3);
        dueComplete("nothing to fill", 1, 1, x, 0, 1, 2, 3);
        setAll(x, NONE, 1, NONE, 0);
        dueComplete("no way, all told", 0, 20000, x, NONE, 1, NONE, 0);
        setAll(x, NONE, 3, 4, NONE);
        dueComplete("told ones stay", 1, 20000, x, 0, 3, 4, 1);
        setAll(x, 6, NONE, NONE, NONE);
        dueComplete("a told one that does not fit: no try", 0, 1, x, 6, NONE, NONE, NONE);
        backwards();
        againAndNone();
    }

    private static void backwards() {
        VerseBench x = stanza(2);
        x.set(1, 3);
        // 0 is right, but 3 does not rhyme with it
        dueComplete("back to the first place", SPENT, 1, x, NONE, 3);
        dueComplete("back to the first place", 1, 2, x, 1, 3);
        VerseBench y = stanza(4);
        letters(y, 0, 1, 0, 0);
        y.place(3, 0, NONE);
        y.set(0, 5);
        // 5 rhymes with none: at place 1 all 7 are tried, 5 of them are right there, below each all 7 are tried
        dueComplete("all tries, just so many", 0, 7 + 5 * 7, y, 5, NONE, NONE, NONE);
        dueComplete("one try too few", SPENT, 7 + 5 * 7 - 1, y, 5, NONE, NONE, NONE);
    }

    private static void againAndNone() {
        VerseBench x = stanza(4);
        letters(x, 0, 0, 0, 1);
        x.place(2, 0, 0);
        // 0; 0, 1, 2; again; 0, 1
        dueComplete("again is no try", SPENT, 5, x, NONE, NONE, NONE, NONE);
        dueComplete("again is no try", 1, 6, x, 0, 2, 0, 1);
        VerseBench y = stanza(2);
        y.place(1, 0, 0);
        y.set(1, 4);
        // 0, 1, 2, 3, 4 are tried until the told one is again
        dueComplete("a told one that must be again", SPENT, 4, y, NONE, 4);
        dueComplete("a told one that must be again", 1, 5, y, 4, 4);
        VerseBench z = new VerseBench();
        dueComplete("no places", 1, 1, z);
        z.form(1);
        dueComplete("no lines", 0, 1, z, NONE);
        due("26 still empty", 1, z.count(5));
        VerseBench u = stanza(14);
        dueComplete("many", 0, 20000, u, NONE, NONE, NONE);
        for (int i = 0; i < 14; i++) u.place(i, i % 8, i == 0 ? NONE : 0);
        dueComplete("one line all along", 1, 1, u, 0, 0, 0, 0, 0, 0, 0, 0, 0, 0, 0, 0, 0, 0);
    }

    private static void promise27Stands() {
        VerseBench x = stanza(2);
        due("27 empty", NONE, x.stands(0));
        x.set(1, 5);
        due("27 told", 5, x.stands(1));
        for (int wrong : new int[] {-1, 2, 13, 14, LOW, HIGH}) due("27 wrong", BAD, x.stands(wrong));
        due("27 no places", BAD, new VerseBench().stands(0));
    }

    private static void promise28Count() {
        VerseBench x = stanza(5);
        x.writing(0, 0);
        x.writing(3, 8);
        x.writing(3, 2);
        setAll(x, 0, NONE, 3);
        Dues.say(x, 0, v(1, 1));
        int[] want = {7, 8, 7, 1, 5, 3, 2, BAD, BAD};
        for (int what = 0; what < want.length; what++) due("28 count(" + what + ")", want[what], x.count(what));
        for (int wrong : new int[] {-1, LOW, HIGH}) due("28 wrong", BAD, x.count(wrong));
    }

    public static void main(String[] args) {
        promise1NewObject();
        promise2Word();
        promise3Saying();
        promise4Writing();
        promise5Spell();
        promise6Copy();
        promise7Speech();
        promise8Told();
        promise9Near();
        promise10Rhyme();
        promise11How();
        promise12Cost();
        promise13Rhymes();
        promise14Broken();
        promise15Meter();
        promise16Line();
        promise17InLine();
        promises18And19Layings();
        promise20Fill();
        promise21Form();
        promise22Place();
        promise23Loose();
        promise24Set();
        promise25Check();
        promise26Complete();
        promise27Stands();
        promise28Count();
        DUES.end();
    }
}
