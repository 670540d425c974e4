import java.util.function.Supplier;

/** The edges of the document's outset, its Terms up to part 1, and promises 1 to 8: words, sayings, writings, speech. */
final class EdgesOfWords extends Benches {
    private final Sentences s;

    EdgesOfWords(Sentences s) {
        this.s = s;
    }

    void run() {
        fiveHundredAndTwelveCalls();
        refusals();
        refusalsInOrder();
        none();
        sounds();
        sayings();
        words();
        places();
        speechOfSounds();
        tails();
        newObject();
        word();
        saying();
        writing();
        spell();
        copy();
        speech();
        told();
        toldSounds();
    }

    /** A bench with something of all that there is, so that a change would be seen. */
    static VerseBench rich() {
        VerseBench x = new VerseBench();
        int[][] rows = {row(10, v(1, 2), 12), row(10, v(2, 2), 13), row(11, v(1, 2), 12), row(11, v(2, 2), 13), row(v(3, 0), 20), row(v(3, 1))};
        for (int w = 0; w < rows.length; w++) {
            x.word(w % 6);
            Dues.say(x, w, rows[w]);
        }
        Dues.say(x, 5, v(4, 0));
        write(x, 0, 1, 2, 3, 4);
        write(x, 1, -5, -6, -7);
        x.speech(3, 4);
        x.speech(20, 21);
        x.near(7);
        Dues.marks(x, 0, 1);
        for (int w = 0; w < 4; w++) Dues.lineOf(x, 4, w);
        Dues.lineOf(x, 5, 0);
        x.form(4);
        x.loose(1);
        letters(x, 0, 1, 0, 1);
        x.place(3, 1, 1);
        setAll(x, 0, 1);
        return x;
    }

    static VerseBench fullOfWords() {
        return words(24);
    }

    static VerseBench fullOfSayings() {
        VerseBench x = rich();
        Dues.say(x, 5, v(4, 2));
        return x;
    }

    static VerseBench fullOfLines() {
        VerseBench x = rich();
        for (int k = x.count(2); k < 16; k++) Dues.lineOf(x, 4, 5, 0);
        return x;
    }

    private void fiveHundredAndTwelveCalls() {
        s.nothingToAsk(-1, "A bench for verse makers: words said in one or more ways, as rows of sounds in syllables with stress; "
            + "rhymes of many kinds by their rules, near ones by cost, broken ones over two words; other speech that changes sounds; "
            + "feet and licences by which lines are laid, all layings and the cheapest; forms that tell what must rhyme and come again; "
            + "gaps filled from heaps, and a whole form filled from told lines.");
        s.outset("An object is used for at most 512 calls after it has been made; what later calls answer is free.");
        VerseBench x = new VerseBench();
        for (int w = 0; w < 24; w++) s.due("call " + (w + 1), w, x.word(5));
        for (int k = 0; k < 72; k++) s.due("call " + (k + 25), k / 24, x.saying(k % 24, 12, 0, 0));
        for (int k = 0; k < 16; k++) s.due("call " + (k + 97), k, x.line(8, 0));
        s.due("call 113", 12, x.meter(12, 531440));
        s.due("call 114", 14, x.form(14));
        for (int call = 115; call < 512; call++) {
            if (call % 3 == 0) s.due("call " + call, 1000000, x.layings(15));
            if (call % 3 == 1) s.due("call " + call, 1, x.rhyme(23, 0, 6));
            if (call % 3 == 2) s.due("call " + call, NONE, x.set(13, NONE));
        }
        s.due("call 512", 84 * 2 - 1, x.laid(0));
    }

    private void refusals() {
        s.nothingToAsk(0, "All numbers are whole.");
        s.term(0, "A call that is refused answers one of BAD, NO, FULL, or a FINDING,", 2, 3, 4, 5, 6, 16);
        Supplier<VerseBench> made = EdgesOfWords::rich;
        s.due("BAD", -3, VerseBench.BAD);
        s.due("NO", -4, VerseBench.NO);
        s.due("FULL", -5, VerseBench.FULL);
        s.refused("word: BAD", BAD, made, x -> x.word(6));
        s.refused("word: FULL", FULL, EdgesOfWords::fullOfWords, x -> x.word(0));
        s.refused("saying: FULL", FULL, EdgesOfWords::fullOfSayings, x -> x.saying(5, 1, 0, 0));
        s.refused("line: FULL", FULL, EdgesOfWords::fullOfLines, x -> x.line(1, 0));
        s.refused("writing: SIZE", SIZE, made, x -> x.writing(0, -1));
        s.refused("spell: NOTHING", NOTHING, made, x -> x.spell(2, 0, 1));
        s.refused("copy: INDEX", INDEX, made, x -> x.copy(0, 1, 0, 4));
    }

    private void refusalsInOrder() {
        s.term(0, "of several the one that stands first with it,", 2, 3, 4, 5, 6, 16);
        s.due("word: BAD, FULL", BAD, fullOfWords().word(-1));
        s.due("saying: BAD (a sound), FULL", BAD, fullOfSayings().saying(5, 1, 50, 0));
        s.due("saying: BAD (n), FULL", BAD, fullOfSayings().saying(5, 13, 0, 0));
        s.due("writing: BAD, SIZE", BAD, rich().writing(6, -1));
        s.due("spell: BAD, NOTHING", BAD, words(1).spell(1, -1, 128));
        s.due("spell: NOTHING, INDEX", NOTHING, rich().spell(2, -1, 128));
        s.due("spell: INDEX, BAD", INDEX, rich().spell(0, 4, 128));
        s.due("copy: BAD, NOTHING", BAD, rich().copy(2, 6, -1, -1));
        s.due("copy: NOTHING, INDEX", NOTHING, rich().copy(2, 0, -1, -1));
        s.due("line: BAD, FULL", BAD, fullOfLines().line(1, 6));
        s.term(0, "and changes nothing.", 2, 3, 4, 5, 6, 7, 9, 15, 16, 21, 22, 23, 24, 26);
        Supplier<VerseBench> made = EdgesOfWords::rich;
        s.refused("saying", BAD, made, x -> x.saying(0, 2, 120 << 8, 0));
        s.refused("writing", BAD, made, x -> x.writing(0, 9));
        s.refused("spell", BAD, made, x -> x.spell(0, 0, 128));
        s.refused("copy", INDEX, made, x -> x.copy(0, 0, 3, 2));
        s.refused("speech", BAD, made, x -> x.speech(9, 10));
        s.refused("near", BAD, made, x -> x.near(101));
        s.refused("meter", BAD, made, x -> x.meter(2, 9));
        s.refused("line", BAD, made, x -> x.line(2, 6 * 24));
        s.refused("form", BAD, made, x -> x.form(15));
        s.refused("place", BAD, made, x -> x.place(2, 1, 2));
        s.refused("loose", BAD, made, x -> x.loose(2));
        s.refused("set", BAD, made, x -> x.set(0, 5));
        s.refused("complete", BAD, made, x -> x.complete(20001));
    }

    private void none() {
        s.term(0, "NONE: there is none.", 11, 12, 13, 14, 17, 19, 20, 24, 27);
        s.due("the constant", -1, VerseBench.NONE);
        VerseBench x = words(2);
        Dues.lineOf(x, 0);
        x.form(1);
        s.due("how", NONE, x.how(0, 1, 6));
        s.due("cost", NONE, x.cost(0, 1));
        s.due("rhymes", NONE, x.rhymes(0, 6, 0));
        s.due("broken", NONE, x.broken(0, 0));
        s.due("inLine", NONE, x.inLine(0, 1));
        s.due("laid", NONE, x.laid(0));
        s.due("fill", NONE, x.fill(0, 0, NONE, 0));
        s.due("stands", NONE, x.stands(0));
        s.due("set", NONE, x.set(0, 0));
    }

    private void sounds() {
        s.term(1, "SOUNDS are 0 .. 39: 0 .. 9 VOWELS, others not.", 3, 7);
        s.due("9 alone", 0, Dues.say(words(1), 0, 9));
        s.due("10 alone has no vowel", BAD, Dues.say(words(1), 0, 10));
        s.due("39 behind a vowel", 0, Dues.say(words(1), 0, 0, 39));
        s.due("39 alone has no vowel", BAD, Dues.say(words(1), 0, 39));
        VerseBench x = words(1);
        s.due("0 is a sound", 0, x.speech(0, 0));
        s.due("39 is a sound", 39, x.speech(39, 39));
        s.due("40 is none", BAD, x.speech(40, 40));
        s.due("-1 is none", BAD, x.speech(-1, -1));
        s.due("9 is a vowel", 9, x.speech(9, 0));
        s.due("10 is not", 10, x.speech(10, 39));
    }

    private void sayings() {
        s.term(1, "A SAYING is a row of 1 to 12 SOUNDS with one VOWEL at least;", 3);
        s.due("none", BAD, words(1).saying(0, 0, 0, 0));
        s.due("one", 0, words(1).saying(0, 1, 0, 0));
        s.due("twelve", 0, words(1).saying(0, 12, 0, 0));
        s.due("thirteen", BAD, words(1).saying(0, 13, 0, 0));
        int[] others = {10, 11, 12, 13, 14, 15, 16, 17, 18, 19, 20, 39};
        s.due("twelve without a vowel", BAD, Dues.say(words(1), 0, others));
        for (int k = 0; k < 12; k++) {
            int[] one = others.clone();
            one[k] = v(5, 1);
            s.due("one vowel at " + k, 0, Dues.say(words(1), 0, one));
        }
        s.term(1, "each VOWEL is a SYLLABLE with a STRESS 0 weak, 1 half, 2 full.", 3, 8);
        VerseBench x = words(3);
        for (int stress = 0; stress <= 2; stress++) {
            s.due("stress " + stress, 0, Dues.say(x, stress, v(9, stress)));
            s.due("is told", stress, x.told(stress, 0, 3));
            s.due("one syllable", 1, x.told(stress, 0, 1));
        }
        s.due("there is no stress 3", BAD, Dues.say(x, 0, 120));
        Dues.say(x, 0, 0, 41, 82, 3, 44, 85, 6, 47, 88, 9, 40, 81);
        s.due("twelve syllables", 12, x.told(0, 1, 1));
    }

    private void words() {
        s.term(1, "WORDS, 24 at most, numbered from 0 as they come,", 2);
        VerseBench x = new VerseBench();
        for (int w = 0; w < 24; w++) s.due("a word", w, x.word(w % 6));
        s.due("a 25th", FULL, x.word(0));
        s.due("so many", 24, x.count(0));
        s.term(1, "have 0 to 3 SAYINGS each,", 3, 8, 28);
        s.due("none at first", BAD, x.told(23, 0, 0));
        for (int k = 0; k < 3; k++) s.due("a saying", k, x.saying(23, 1, k, 0));
        s.due("a fourth", FULL, x.saying(23, 1, 3, 0));
        s.due("the third is there", 2, x.told(23, 2, 4));
        s.due("there is no fourth", BAD, x.told(23, 3, 0));
        s.due("three in all", 3, x.count(1));
        s.term(1, "a HEAP 0 .. 5,", 2, 20);
        s.due("heap 0", 0, new VerseBench().word(0));
        s.due("heap 5", 0, new VerseBench().word(5));
        s.due("heap 6", BAD, new VerseBench().word(6));
        s.due("heap -1", BAD, new VerseBench().word(-1));
        s.term(1, "a WRITING (a row of 0 to 8 bytes, MISSING at first).", 4, 5, 28);
        s.due("missing at first", NOTHING, x.spell(0, 0, 0));
        s.due("all are missing", 0, x.count(6));
        s.due("of 0 bytes", 0, x.writing(0, 0));
        s.due("it is not missing", INDEX, x.spell(0, 0, 0));
        s.due("one is not missing", 1, x.count(6));
        s.due("of 8 bytes", 8, x.writing(0, 8));
        s.due("its last byte", 1000, x.spell(0, 7, 1));
        s.due("of 9 bytes", BAD, x.writing(0, 9));
        s.due("of -1 bytes", SIZE, x.writing(0, -1));
    }

    private void places() {
        s.term(1, "A SAYING's PLACES: its SOUNDS are told as bytes: a VOWEL v with stress s as 40 * s + v, others as they are;", 3);
        for (int told = 0; told < 256; told++) {
            boolean isVowel = told < 10 || (told >= 40 && told < 50) || (told >= 80 && told < 90);
            boolean isSound = told < 40 || isVowel;
            VerseBench x = words(1);
            s.due("byte " + told, isSound ? 0 : BAD, x.saying(0, 2, (long) told << 8, 0));
            if (!isSound) continue;
            s.due("its sound", told % 40, x.told(0, 0, 5));
            s.due("syllables", isVowel ? 2 : 1, x.told(0, 0, 1));
            s.due("its stress", isVowel ? told / 40 : 0, x.told(0, 0, 3));
        }
        s.term(1, "of a long the lowest byte first", 3);
        VerseBench x = words(1);
        s.due("twelve", 0, x.saying(0, 12, 0x1110_0F0E_0D0C_0B00L, 0x1514_1312L));
        int[] want = {0, 11, 12, 13, 14, 15, 16, 17, 18, 19, 20, 21};
        for (int k = 0; k < 12; k++) s.due("sound " + k, want[k], x.told(0, 0, 4 + k));
        s.term(1, "(what is none of these is refused;", 3);
        for (int k = 0; k < 12; k++) {
            int[] row = new int[12];
            for (int wrong : new int[] {50, 79, 90, 120, 128, 255}) {
                row[k] = wrong;
                s.refused(wrong + " at " + k, BAD, EdgesOfWords::rich, y -> Dues.say(y, 2, row));
            }
        }
        s.term(1, "bytes that are not asked for are not looked at).", 3);
        for (int n = 1; n <= 12; n++) {
            long first = n < 8 ? -1L << 8 * n : 0;
            long second = n < 8 ? -1L : n < 12 ? -1L << 8 * (n - 8) : -1L << 32;
            VerseBench y = words(1);
            s.due("of " + n, 0, y.saying(0, n, first, second));
            s.due("so many sounds", n, y.told(0, 0, 0));
            s.due("a vowel that is not asked for is none", BAD, y.saying(0, 1, 10, 0));
        }
    }

    private void speechOfSounds() {
        s.term(1, "SPEECH: for each SOUND what is said for it, itself at first", 1, 7);
        VerseBench x = said(row(v(9, 2), 10), row(v(0, 0), 39));
        s.due("9", 9, x.told(0, 0, 4));
        s.due("10", 10, x.told(0, 0, 5));
        s.due("39", 39, x.told(1, 0, 5));
        for (int sound = 0; sound < 40; sound++) s.due("what was said for " + sound, sound, x.speech(sound, sound));
        s.term(1, "(a VOWEL for a VOWEL, others for others).", 7);
        s.due("9 as 10", BAD, x.speech(9, 10));
        s.due("10 as 9", BAD, x.speech(10, 9));
        s.due("0 as 39", BAD, x.speech(0, 39));
        s.due("39 as 0", BAD, x.speech(39, 0));
        s.due("0 as 9", 0, x.speech(0, 9));
        s.due("9 as 0", 9, x.speech(9, 0));
        s.due("10 as 39", 10, x.speech(10, 39));
        s.due("39 as 10", 39, x.speech(39, 10));
        s.term(1, "A SAYING SOUNDS as SPEECH tells for each of its SOUNDS (once).", 7, 8);
        s.due("9 as 0, not as 0 as 9", 0, x.told(0, 0, 4));
        s.due("10 as 39, not as 39 as 10", 39, x.told(0, 0, 5));
        s.due("0 as 9", 9, x.told(1, 0, 4));
        s.due("39 as 10", 10, x.told(1, 0, 5));
        x.speech(9, 9);
        s.due("9 as it is again", 9, x.told(0, 0, 4));
    }

    private void dueTail(String what, int want, int... bytes) {
        s.due(what, want, said(bytes).told(0, 0, 2));
    }

    private void tails() {
        s.term(1, "THE TAIL of a SAYING: from its last VOWEL of the greatest STRESS that it has on.", 8, 10);
        dueTail("one vowel alone", 0, v(1, 0));
        dueTail("one vowel at the end", 11, 10, 10, 10, 10, 10, 10, 10, 10, 10, 10, 10, v(1, 0));
        dueTail("weak ones: the last", 2, v(1, 0), 10, v(2, 0), 11);
        dueTail("half above weak", 0, v(1, 1), 10, v(2, 0), 11);
        dueTail("half ones: the last", 2, v(1, 1), 10, v(2, 1), 11, v(3, 0));
        dueTail("full above half", 1, 10, v(1, 2), v(2, 1), v(3, 0));
        dueTail("full ones: the last", 3, v(1, 2), v(2, 1), 10, v(3, 2), v(4, 1), v(5, 0));
        dueTail("the last of twelve", 11, 82, 82, 82, 82, 82, 82, 82, 82, 82, 82, 82, 82);
        dueTail("the first of twelve", 0, 82, 42, 42, 2, 2, 2, 2, 42, 2, 2, 2, 42);
        s.term(1, "AHEAD of it: the SOUND there, or none.", 10);
        s.due("none, and a sound", 1, said(row(v(1, 2)), row(10, v(1, 2))).rhyme(0, 1, 0));
        s.due("none, and none", 0, said(row(v(1, 2)), row(v(1, 2))).rhyme(0, 1, 0));
        s.due("the sound right ahead, alike", 0, said(row(12, 11, v(1, 2)), row(13, 11, v(1, 2))).rhyme(0, 1, 0));
        s.due("the sound right ahead, a vowel", 0, said(row(10, v(2, 0), v(1, 2)), row(11, v(2, 1), v(1, 2))).rhyme(0, 1, 0));
        s.due("a vowel, and another", 1, said(row(v(2, 0), v(1, 2)), row(v(3, 0), v(1, 2))).rhyme(0, 1, 0));
    }

    private void newObject() {
        s.promise(1, "No WORDS, LINES;");
        VerseBench x = new VerseBench();
        for (int what : new int[] {0, 1, 2, 6}) s.due("count(" + what + ")", 0, x.count(what));
        s.due("no word to say", BAD, x.saying(0, 1, 0, 0));
        s.due("no word for a line", BAD, x.line(1, 0));
        s.due("no line", BAD, x.inLine(0, 0));
        s.due("the first word", 0, x.word(0));
        s.due("the first line", 0, x.line(1, 0));
        s.due("nothing of it in another object", 0, new VerseBench().count(0));
        s.promise(1, "SPEECH as it is;");
        x.speech(3, 4);
        x.speech(30, 31);
        VerseBench y = new VerseBench();
        for (int sound = 0; sound < 40; sound++) s.due("sound " + sound, sound, y.speech(sound, sound));
        s.promise(1, "a METER of one mark, weak;");
        VerseBench z = stressed(0);
        Dues.lineOf(z, 2);
        Dues.lineOf(z, 2, 0);
        Dues.lineOf(z, 0, 0);
        s.due("one mark", 1, z.count(3));
        s.due("a weak syllable", 0, z.laid(0));
        s.due("on its mark, or headless and a tail", 2, z.layings(0));
        s.due("a full one", NONE, z.laid(1));
        s.due("two", NONE, z.laid(2));
        s.due("a weak one and a tail", 1, z.laid(3));
        s.promise(1, "a FORM without places.");
        VerseBench u = stressed(0);
        s.due("places", 0, u.count(4));
        s.due("empty ones", 0, u.count(5));
        s.due("stands", BAD, u.stands(0));
        s.due("set", BAD, u.set(0, 0));
        s.due("place", BAD, u.place(0, 0, NONE));
        s.due("check", 0, u.check());
        s.due("complete", 1, u.complete(1));
        s.due("loose", 0, u.loose(0));
    }

    private void word() {
        s.promise(2, "One more WORD in a HEAP: its number.");
        VerseBench x = new VerseBench();
        for (int w = 0; w < 24; w++) {
            s.due("a word", w, x.word(5 - w % 6));
            x.saying(w, 1, 0, 0);
        }
        x.line(1, 0);
        for (int heap = 0; heap <= 5; heap++) {
            for (int i = 0; i < 4; i++) s.due("heap " + heap, 6 * i + 5 - heap, x.fill(0, heap, NONE, i));
            s.due("no more in heap " + heap, NONE, x.fill(0, heap, NONE, 4));
        }
        s.promise(2, "BAD; FULL.");
        for (int wrong : new int[] {-1, 6, LOW, HIGH}) s.refused("heap " + wrong, BAD, EdgesOfWords::rich, y -> y.word(wrong));
        for (int heap = 0; heap <= 5; heap++) {
            int told = heap;
            s.refused("a 25th", FULL, EdgesOfWords::fullOfWords, y -> y.word(told));
        }
    }

    private void saying() {
        s.promise(3, "One more SAYING of a WORD, of n SOUNDS (1 .. 12), the first eight in first, others in second: its number.");
        for (int n = 1; n <= 12; n++) {
            VerseBench x = words(24);
            for (int k = 0; k < 3; k++) s.due("of " + n, k, x.saying(23, n, 0x1211_100F_0E0D_0C05L, 0x1615_1413L));
            for (int k = 0; k < n; k++) s.due("sound " + k, k == 0 ? 5 : 11 + k, x.told(23, 2, 4 + k));
            s.due("no more", n == 12 ? BAD : INDEX, x.told(23, 2, 4 + n));
            s.due("others have none", 3, x.count(1));
        }
        s.promise(3, "BAD: word, n, a SOUND that is none, no VOWEL;");
        Supplier<VerseBench> made = EdgesOfWords::rich;
        for (int wrong : new int[] {-1, 6, 24, LOW, HIGH}) s.refused("word " + wrong, BAD, made, x -> x.saying(wrong, 1, 0, 0));
        for (int wrong : new int[] {-1, 0, 13, 16, LOW, HIGH}) s.refused("n " + wrong, BAD, made, x -> x.saying(0, wrong, 0, 0));
        s.refused("none of the sounds", BAD, made, x -> x.saying(0, 8, -1, 0));
        s.refused("the ninth is none", BAD, made, x -> x.saying(0, 9, 0, 50));
        s.refused("no vowel", BAD, made, x -> x.saying(0, 1, 39, 0));
        s.refused("no vowel but in what is not asked for", BAD, made, x -> x.saying(0, 2, 0x50_0A0AL, 0));
        s.promise(3, "FULL: three.");
        s.refused("a fourth", FULL, EdgesOfWords::fullOfSayings, x -> x.saying(5, 12, 0, 0));
        s.due("another word is not full", 1, fullOfSayings().saying(4, 12, 0, 0));
    }

    private void writing() {
        s.promise(4, "A WORD's WRITING is there, of n bytes (8 at most), all 0: n.");
        for (int n = 0; n <= 8; n++) {
            VerseBench x = words(24);
            write(x, 23, 1, 2, 3, 4, 5, 6, 7, 8);
            s.due("of " + n, n, x.writing(23, n));
            for (int place = 0; place < n; place++) s.due("byte " + place, 1000, x.spell(23, place, 0));
            s.due("no more", INDEX, x.spell(23, n, 0));
            s.due("it is there", 1, x.count(6));
            s.due("again of 8", 8, x.writing(23, 8));
            for (int place = 0; place < 8; place++) s.due("byte " + place, 1000, x.spell(23, place, 0));
        }
        s.promise(4, "BAD: word, n above 8;");
        Supplier<VerseBench> made = EdgesOfWords::rich;
        for (int wrong : new int[] {-1, 6, 24, LOW, HIGH}) s.refused("word " + wrong, BAD, made, x -> x.writing(wrong, 1));
        for (int wrong : new int[] {9, 10, HIGH}) s.refused("n " + wrong, BAD, made, x -> x.writing(0, wrong));
        s.promise(4, "SIZE.");
        for (int wrong : new int[] {-1, -2, LOW}) s.refused("n " + wrong, SIZE, made, x -> x.writing(0, wrong));
        s.refused("it stays missing", SIZE, made, x -> x.writing(5, -1));
    }

    private void spell() {
        s.promise(5, "A byte of a WRITING (-128 .. 127) is v: 1000 more than what it was (with its sign).");
        VerseBench x = words(1);
        x.writing(0, 8);
        int[] bytes = {-128, -127, -1, 0, 1, 126, 127, -128};
        for (int place = 0; place < 8; place++) s.due("was 0", 1000, x.spell(0, place, bytes[place]));
        for (int place = 0; place < 8; place++) s.due("was " + bytes[place], 1000 + bytes[place], x.spell(0, place, 7));
        s.promise(5, "BAD: word;");
        Supplier<VerseBench> made = EdgesOfWords::rich;
        for (int wrong : new int[] {-1, 6, 24, LOW, HIGH}) s.refused("word " + wrong, BAD, made, y -> y.spell(wrong, 0, 9));
        s.promise(5, "NOTHING;");
        for (int place : new int[] {-1, 0, 7}) s.refused("missing", NOTHING, made, y -> y.spell(2, place, 9));
        s.promise(5, "INDEX;");
        for (int wrong : new int[] {-1, 4, 7, 8, LOW, HIGH}) s.refused("place " + wrong, INDEX, made, y -> y.spell(0, wrong, 9));
        s.due("the last place", 1004, rich().spell(0, 3, 9));
        VerseBench y = words(1);
        y.writing(0, 0);
        s.due("a writing without places", INDEX, y.spell(0, 0, 9));
        s.promise(5, "BAD: v.");
        for (int wrong : new int[] {-129, 128, 255, LOW, HIGH}) s.refused("v " + wrong, BAD, made, z -> z.spell(0, 3, wrong));
    }

    private void dueWriting(VerseBench x, int word, int... bytes) {
        for (int k = 0; k < bytes.length; k++) s.due("byte " + k, 1000 + bytes[k], x.spell(word, k, bytes[k]));
    }

    /** Word 0 is written with 4 bytes, word 1 with 6, word 2 with none at all, word 3 not. */
    private static VerseBench copies() {
        VerseBench x = words(4);
        write(x, 0, 1, -2, 3, -128);
        write(x, 1, 11, 12, 13, 14, 15, 16);
        x.writing(2, 0);
        return x;
    }

    private void copy() {
        s.promise(6, "So many bytes of a WRITING, from one place on, become those of another WORD's");
        VerseBench x = copies();
        s.due("two, from place 3 on", 2, x.copy(0, 1, 3, 2));
        dueWriting(x, 1, 11, 12, 13, 1, -2, 16);
        dueWriting(x, 0, 1, -2, 3, -128);
        s.promise(6, "(the same, too)");
        for (int place = 0; place <= 2; place++) {
            VerseBench y = copies();
            s.due("over itself", 4, y.copy(1, 1, place, 4));
            int[] want = {11, 12, 13, 14, 15, 16};
            for (int k = 0; k < 4; k++) want[place + k] = 11 + k;
            dueWriting(y, 1, want);
        }
        s.promise(6, ", from its first on: many.");
        VerseBench y = copies();
        s.due("all, to the very end", 4, y.copy(0, 1, 2, 4));
        dueWriting(y, 1, 11, 12, 1, -2, 3, -128);
        s.due("one, to the last place", 1, y.copy(1, 0, 3, 1));
        dueWriting(y, 0, 1, -2, 3, 11);
        s.due("none", 0, y.copy(0, 1, 0, 0));
        dueWriting(y, 1, 11, 12, 1, -2, 3, -128);
        refusedCopies();
        s.promise(6, "(From a WORD, to a WORD and its place.)");
        VerseBench z = copies();
        s.due("a place that is only in the longer one", 2, z.copy(0, 1, 4, 2));
        dueWriting(z, 1, 11, 12, 13, 14, 1, -2);
        s.due("the other way round", INDEX, z.copy(1, 0, 4, 2));
    }

    private void refusedCopies() {
        Supplier<VerseBench> made = EdgesOfWords::copies;
        s.promise(6, "BAD: words;");
        for (int wrong : new int[] {-1, 4, 24, LOW, HIGH}) {
            s.refused("from " + wrong, BAD, made, x -> x.copy(wrong, 0, 0, 1));
            s.refused("to " + wrong, BAD, made, x -> x.copy(0, wrong, 0, 1));
        }
        s.promise(6, "NOTHING: one is MISSING;");
        s.refused("from", NOTHING, made, x -> x.copy(3, 0, 0, 0));
        s.refused("to", NOTHING, made, x -> x.copy(0, 3, 0, 0));
        s.refused("both", NOTHING, made, x -> x.copy(3, 3, 0, 0));
        s.due("one without places is not missing", 0, copies().copy(2, 0, 0, 0));
        s.due("to one without places", 0, copies().copy(0, 2, 0, 0));
        s.promise(6, "INDEX (many below 0, a place beyond the end, too).");
        for (int wrong : new int[] {-1, 5, LOW, HIGH}) s.refused("many " + wrong, INDEX, made, x -> x.copy(0, 1, 0, wrong));
        for (int wrong : new int[] {-1, 7, LOW, HIGH}) s.refused("place " + wrong, INDEX, made, x -> x.copy(0, 1, wrong, 0));
        s.refused("from has not so many", INDEX, made, x -> x.copy(0, 1, 0, 5));
        s.refused("to has not so many", INDEX, made, x -> x.copy(1, 0, 0, 5));
        s.refused("to has not so many from there on", INDEX, made, x -> x.copy(0, 1, 3, 4));
        s.refused("one of none", INDEX, made, x -> x.copy(2, 0, 0, 1));
        s.refused("one to none", INDEX, made, x -> x.copy(0, 2, 0, 1));
        s.refused("place and many beyond all numbers", INDEX, made, x -> x.copy(0, 1, HIGH, 4));
        s.refused("many beyond all numbers", INDEX, made, x -> x.copy(0, 1, 4, HIGH));
        s.refused("many far below, place far beyond", INDEX, made, x -> x.copy(0, 1, HIGH, LOW));
        s.refused("a place below, though many is so small", INDEX, made, x -> x.copy(0, 1, -1, 1));
        s.due("a place just at the end is not beyond it", 0, copies().copy(0, 1, 6, 0));
    }

    private void speech() {
        s.promise(7, "What is said for a SOUND: what it was.");
        VerseBench x = said(row(v(0, 2), 39));
        s.due("0 was 0", 0, x.speech(0, 9));
        s.due("0 was 9", 9, x.speech(0, 1));
        s.due("39 was 39", 39, x.speech(39, 10));
        s.due("39 was 10", 10, x.speech(39, 38));
        s.due("the first sound", 1, x.told(0, 0, 4));
        s.due("the last sound", 38, x.told(0, 0, 5));
        s.due("another stays", 1, x.speech(1, 1));
        s.promise(7, "BAD: sounds,");
        Supplier<VerseBench> made = EdgesOfWords::rich;
        for (int wrong : new int[] {-1, 40, LOW, HIGH}) {
            s.refused("of " + wrong, BAD, made, y -> y.speech(wrong, 3));
            s.refused("of " + wrong + ", other", BAD, made, y -> y.speech(wrong, 30));
            s.refused("as " + wrong, BAD, made, y -> y.speech(3, wrong));
            s.refused("as " + wrong + ", other", BAD, made, y -> y.speech(30, wrong));
        }
        s.promise(7, "or a VOWEL and one that is none.");
        for (int vowel : new int[] {0, 9}) {
            for (int other : new int[] {10, 39}) {
                s.refused(vowel + " as " + other, BAD, made, y -> y.speech(vowel, other));
                s.refused(other + " as " + vowel, BAD, made, y -> y.speech(other, vowel));
            }
        }
    }

    private void told() {
        s.promise(8, "Of a SAYING: what 0 how many SOUNDS,");
        VerseBench x = said(row(v(0, 0)), row(10, v(1, 1), 11, v(2, 1), 12, v(3, 0), 13, v(1, 0), 10, 11, 12, 39));
        s.due("one", 1, x.told(0, 0, 0));
        s.due("twelve", 12, x.told(1, 0, 0));
        s.promise(8, "1 SYLLABLES,");
        s.due("one", 1, x.told(0, 0, 1));
        s.due("four", 4, x.told(1, 0, 1));
        s.promise(8, "2 the place (of SOUNDS, from 0) where its TAIL begins,");
        s.due("the first", 0, x.told(0, 0, 2));
        s.due("among the others", 3, x.told(1, 0, 2));
        s.promise(8, "3 its greatest STRESS,");
        s.due("weak", 0, x.told(0, 0, 3));
        s.due("half", 1, x.told(1, 0, 3));
        s.due("full", 2, said(row(v(1, 2), v(1, 1), v(1, 0))).told(0, 0, 3));
    }

    private void toldSounds() {
        VerseBench x = said(row(v(0, 0)), row(10, v(1, 1), 11, v(2, 1), 12, v(3, 0), 13, v(1, 0), 10, 11, 12, 39));
        s.promise(8, "4 .. 15 its SOUNDS as they SOUND");
        int[] want = {10, 1, 11, 2, 12, 3, 13, 1, 10, 11, 12, 39};
        for (int k = 0; k < 12; k++) s.due("sound " + k, want[k], x.told(1, 0, 4 + k));
        x.speech(39, 30);
        x.speech(10, 12);
        s.due("the first", 12, x.told(1, 0, 4));
        s.due("the last", 30, x.told(1, 0, 15));
        s.promise(8, "(INDEX: not so many).");
        s.due("the only one", 0, x.told(0, 0, 4));
        for (int what = 5; what <= 15; what++) s.due("what " + what, INDEX, x.told(0, 0, what));
        s.promise(8, "BAD: word, saying, what.");
        Supplier<VerseBench> made = EdgesOfWords::rich;
        for (int wrong : new int[] {-1, 6, 24, LOW, HIGH}) s.refused("word " + wrong, BAD, made, y -> y.told(wrong, 0, 0));
        for (int wrong : new int[] {-1, 2, 3, LOW, HIGH}) s.refused("saying " + wrong, BAD, made, y -> y.told(5, wrong, 0));
        for (int wrong : new int[] {-1, 16, LOW, HIGH}) s.refused("what " + wrong, BAD, made, y -> y.told(0, 0, wrong));
        s.due("the last saying", 4, rich().told(5, 1, 4));
        s.due("a word without sayings", BAD, words(1).told(0, 0, 0));
    }
}
