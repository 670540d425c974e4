import java.util.function.Supplier;

/** The edges of part 4 of the document's Terms, and of promises 21 to 28: forms, stanzas, the check, the filling. */
final class EdgesOfForms extends Benches {
    private final Sentences s;

    EdgesOfForms(Sentences s) {
        this.s = s;
    }

    void run() {
        forms();
        againPlaces();
        stanzas();
        lastWords();
        loosely();
        theCheck();
        againInTheCheck();
        fitsAndRhymes();
        firstFinding();
        filling();
        tries();
        againInTheFilling();
        form();
        place();
        loose();
        set();
        check();
        complete();
        stands();
        count();
    }

    private void dueCheck(String what, int want, VerseBench x, int... lines) {
        setAll(x, lines);
        s.due(what, want, x.check());
    }

    private void dueStands(String what, VerseBench x, int... lines) {
        for (int i = 0; i < lines.length; i++) s.due(what + ", place " + i, lines[i], x.stands(i));
    }

    private void dueComplete(String what, int want, int tries, VerseBench x, int... after) {
        s.due(what, want, x.complete(tries));
        dueStands(what, x, after);
    }

    /** A stanza with these letters; lines as Benches.stanza tells. */
    private static VerseBench lettered(int... letters) {
        VerseBench x = stanza(letters.length);
        letters(x, letters);
        return x;
    }

    private void forms() {
        s.term(4, "A FORM has up to 14 places,", 21);
        VerseBench x = stanza(14);
        s.due("fourteen", 14, x.count(4));
        s.due("the last place", NONE, x.set(13, 0));
        s.due("no fifteenth", BAD, x.set(14, 0));
        s.due("fifteen", BAD, x.form(15));
        s.due("none", 0, x.form(0));
        s.due("no first", BAD, x.set(0, 0));
        s.term(4, "each with a letter 0 .. 7", 22);
        VerseBench y = stanza(2);
        s.due("0", 0, y.place(1, 0, NONE));
        s.due("7", 0, y.place(1, 7, NONE));
        s.due("8", BAD, y.place(1, 8, NONE));
        s.due("-1", BAD, y.place(1, -1, NONE));
        s.term(4, "(those of one letter must RHYME)", 25, 26);
        for (int letter = 0; letter <= 7; letter++) {
            dueCheck("of one letter", 15, lettered(letter, letter), 0, 1);
            dueCheck("of one letter, rhyming", 0, lettered(letter, letter), 0, 2);
            dueCheck("of two letters", 0, lettered(letter, (letter + 1) % 8), 0, 1);
        }
        VerseBench far = alikeBut(13);
        letters(far, 7);
        far.place(13, 7, NONE);
        s.due("the first and the last of fourteen", 135, far.check());
        far.set(13, 2);
        s.due("the first and the last of fourteen, rhyming", 0, far.check());
    }

    /** Fourteen places that have line 0, all but two of them again, of letter 1; place 0, and one with line 1, are as form tells. */
    private static VerseBench alikeBut(int place) {
        VerseBench x = stanza(14);
        for (int i = 0; i < 14; i++) x.place(i, 1 + i % 7, NONE);
        x.form(14);
        for (int i = 0; i < 14; i++) {
            x.set(i, i == place ? 1 : 0);
            if (i != 0 && i != place) x.place(i, 1, 0);
        }
        return x;
    }

    private void againPlaces() {
        s.term(4, "and, perhaps, a place ahead whose LINE it must be again.", 22, 25);
        VerseBench x = lettered(0, 1, 2);
        s.due("the place right ahead", 0, x.place(2, 2, 1));
        dueCheck("must be again", 22, x, 0, 1, 0);
        dueCheck("is again", 0, x, 0, 1, 1);
        s.due("the first place", 0, x.place(2, 2, 0));
        dueCheck("must be again", 22, x, 0, 1, 1);
        dueCheck("is again", 0, x, 0, 1, 0);
        s.due("none", 0, x.place(2, 2, NONE));
        dueCheck("need not be again", 23, x, 0, 1, 0);
        s.due("itself", BAD, x.place(2, 2, 2));
        s.due("one behind it", BAD, x.place(1, 1, 2));
        s.due("the first has none ahead", BAD, x.place(0, 0, 0));
    }

    private void stanzas() {
        s.term(4, "STANZA: for each place a LINE told by number, or none (at first).", 21, 24, 27);
        VerseBench x = stanza(14);
        for (int i = 0; i < 14; i++) s.due("none at first", NONE, x.stands(i));
        for (int i = 0; i < 14; i++) s.due("a line", NONE, x.set(i, i % 7));
        for (int i = 0; i < 14; i++) s.due("it is there", i % 7, x.stands(i));
        s.due("none again", 6, x.set(13, NONE));
        s.due("none", NONE, x.stands(13));
        s.term(4, "LINES, 16 at most, numbered from 0.", 16, 24);
        VerseBench y = words(1);
        y.form(1);
        for (int line = 0; line < 16; line++) {
            s.due("not yet", BAD, y.set(0, line));
            s.due("line " + line, line, y.line(1, 0));
            s.due("it is there", line - 1, y.set(0, line));
        }
        s.due("a 17th", FULL, y.line(1, 0));
        s.due("there is none", BAD, y.set(0, 16));
    }

    private void lastWords() {
        s.term(4, "THE LAST WORD of a LINE stands for it: two RHYME if their LAST WORDS are PERFECT RHYMES,", 25, 26);
        VerseBench x = said(row(v(1, 2)), row(10, v(2, 2), 10, 11), row(11, v(2, 2), 10, 11), row(10, v(2, 2), 10, 11));
        for (int w = 1; w <= 3; w++) Dues.lineOf(x, 0, w);
        Dues.lineOf(x, 1, 0);
        Dues.marks(x, 1, 1);
        x.form(2);
        dueCheck("last words rhyme", 0, x, 0, 1);
        dueCheck("last words are rich", 0, x, 0, 2);
        dueCheck("first words alone do", 15, x, 0, 3);
        VerseBench y = said(row(v(1, 2), v(1, 2), v(1, 2), v(1, 2), v(1, 2), v(1, 2), v(1, 2)), row(v(1, 2)), row(10, v(2, 2), 20), row(11, v(2, 2), 20));
        Dues.lineOf(y, 0, 2);
        Dues.lineOf(y, 1, 1, 1, 1, 1, 1, 1, 3);
        Dues.marks(y, 1, 1, 1, 1, 1, 1, 1, 1);
        y.form(2);
        dueCheck("the last of two and the last of eight", 0, y, 0, 1);
        VerseBench z = stanza(2);
        Dues.lineOf(z, 0);
        dueCheck("one last word never rhymes with itself", 15, z, 0, 7);
        dueCheck("but it does with others", 0, z, 7, 2);
    }

    private void loosely() {
        s.term(4, "or (if the FORM is loose) of KIND 2 or 4, too;", 23, 25, 26);
        // with line 0: line 1 by vowels alone, 2 is near alone, 3 ends alone, 4 for the eye alone, 5 a rhyme, 6 rich
        VerseBench x = said(row(10, v(1, 2), 12), row(v(1, 2), 16, 16, 16), row(v(2, 2), 13), row(v(2, 2), v(2, 0), v(2, 0), 12),
            row(v(3, 2), 20, 21, 22), row(11, v(1, 2), 12), row(10, v(1, 2), 12));
        write(x, 0, 1, 2, 3);
        write(x, 4, 1, 2, 3);
        for (int w = 0; w < 7; w++) Dues.lineOf(x, w);
        Dues.marks(x, 1);
        x.form(2);
        int[] kinds = {0, 2, 4, 3, 5, 0, 1};
        int[] strict = {0, 15, 15, 15, 15, 0, 0};
        int[] easy = {0, 0, 0, 15, 15, 0, 0};
        for (int line = 1; line < 7; line++) {
            s.due("the lines rhyme by their kind", 1, x.rhyme(0, line, kinds[line]));
            x.loose(0);
            dueCheck("not loose, line " + line, strict[line], x, 0, line);
            x.loose(1);
            dueCheck("loose, line " + line, easy[line], x, 0, line);
        }
        s.due("the cost of line 2", 9, x.cost(0, 2));
        x.near(9);
        dueCheck("near by just C", 0, x, 0, 2);
        x.near(8);
        dueCheck("near by more than C", 15, x, 0, 2);
        s.term(4, "a LINE that is the same LINE never RHYMES.", 25, 26);
        VerseBench y = stanza(2);
        dueCheck("the same line", 13, y, 0, 0);
        y.loose(1);
        dueCheck("the same line, loosely", 13, y, 0, 0);
        Dues.lineOf(y, 0);
        dueCheck("another line of the same last word, loosely", 15, y, 0, 7);
        VerseBench z = words(1);
        Dues.say(z, 0, v(1, 0));
        Dues.lineOf(z, 0);
        z.form(2);
        dueComplete("one line for two places", 0, 20000, z, NONE, NONE);
    }

    private void theCheck() {
        s.term(4, "THE CHECK goes through places, rising:", 25);
        VerseBench x = lettered(0, 1, 2, 3, 4, 5);
        dueCheck("the first of all", 1, x);
        for (int i = 0; i < 6; i++) {
            x.set(i, i);
            s.due("full up to " + i, i < 5 ? 10 * i + 11 : 0, x.check());
        }
        dueCheck("empty, ahead of one that does not fit", 11, x, 0, NONE, 6);
        dueCheck("does not fit, ahead of an empty one", 14, x, 0, 6, NONE);
        s.term(4, "1 it is empty;", 25);
        for (int i = 0; i < 6; i++) {
            VerseBench y = lettered(0, 1, 2, 3, 4, 5);
            setAll(y, 0, 1, 2, 3, 4, 5);
            y.set(i, NONE);
            s.due("place " + i, 10 * i + 1, y.check());
        }
        VerseBench z = stanza(2);
        z.place(1, 0, 0);
        dueCheck("empty, though it must be again", 11, z, 0, NONE);
        VerseBench last = stanza(14);
        for (int i = 1; i < 14; i++) last.place(i, 0, 0);
        for (int i = 0; i < 13; i++) last.set(i, 0);
        s.due("the last of fourteen", 131, last.check());
    }

    private void againInTheCheck() {
        s.term(4, "2 its LINE must come again there, and is another one;", 25);
        VerseBench x = lettered(0, 0, 0);
        x.place(2, 0, 0);
        dueCheck("another one", 22, x, 0, 2, 4);
        dueCheck("the one of another place", 22, x, 0, 2, 2);
        dueCheck("that one", 0, x, 0, 2, 0);
        VerseBench same = stanza(2);
        Dues.lineOf(same, 0);
        same.place(1, 0, 0);
        dueCheck("another one of the same words", 12, same, 0, 7);
        s.term(4, "3 it need not, and its LINE is one that stands ahead;", 25);
        dueCheck("right ahead", 13, lettered(0, 1), 0, 0);
        dueCheck("far ahead, of another letter", 53, lettered(0, 1, 2, 3, 4, 5), 0, 1, 2, 3, 4, 0);
        dueCheck("behind it does not count", 0, lettered(0, 1, 0), 0, 1, 2);
        VerseBench all = words(1);
        Dues.say(all, 0, v(1, 0));
        all.form(2);
        all.place(1, 1, NONE);
        for (int line = 0; line < 16; line++) {
            Dues.lineOf(all, 0);
            dueCheck("line " + line + " twice", 13, all, line, line);
            if (line > 0) dueCheck("line " + line + " and the one ahead", 0, all, line - 1, line);
        }
        VerseBench y = lettered(0, 1, 0);
        y.place(1, 1, 0);
        dueCheck("one that is there again", 23, y, 0, 0, 0);
        VerseBench z = lettered(0, 1, 2);
        z.place(1, 1, 0);
        z.place(2, 2, 1);
        dueCheck("all must be again", 0, z, 0, 0, 0);
    }

    private void fitsAndRhymes() {
        s.term(4, "4 it does not fit the METER (no LAYING);", 25);
        dueCheck("the first", 4, lettered(0, 1), 6, 1);
        dueCheck("the last", 14, lettered(0, 1), 0, 6);
        VerseBench x = lettered(0);
        x.set(0, 6);
        Dues.marks(x, 1, 1);
        s.due("another meter, and it fits", 0, x.check());
        Dues.marks(x, 1);
        s.due("and then not", 4, x.check());
        x.word(0);
        Dues.lineOf(x, 7);
        dueCheck("a word that is not said", 4, x, 7);
        Dues.say(x, 7, v(1, 2), v(1, 0));
        dueCheck("a laying by licences", 0, x, 7);
        s.term(4, "5 with the nearest place ahead of its letter whose LINE is another one it does not RHYME.", 25);
        dueCheck("does not rhyme", 15, lettered(0, 0), 0, 1);
        dueCheck("rhymes", 0, lettered(0, 0), 0, 2);
        dueCheck("of another letter", 0, lettered(0, 1), 0, 1);
        dueCheck("the nearest of its letter", 25, lettered(0, 1, 0), 0, 1, 3);
        dueCheck("none of its letter ahead", 0, lettered(0, 1, 2), 0, 1, 3);
        nearest();
    }

    private void nearest() {
        // words 0 and 1 rhyme by one saying, 1 and 2 by another, 0 and 2 not at all
        VerseBench x = said(row(v(1, 2), 20), row(10, v(1, 2), 20), row(v(2, 2), 21, 22));
        Dues.say(x, 1, 10, v(2, 2), 21, 22);
        for (int w = 0; w < 3; w++) Dues.lineOf(x, w);
        Dues.marks(x, 1);
        x.form(3);
        dueCheck("with the nearest, not the first", 0, x, 0, 1, 2);
        dueCheck("with the nearest, though it would with the first", 15, x, 0, 2, 1);
        VerseBench y = lettered(0, 1, 1);
        y.place(2, 1, 0);
        dueCheck("one that must be again rhymes there, too", 25, y, 0, 1, 0);
        VerseBench z = stanza(4);
        letters(z, 0, 0, 0, 0);
        z.place(2, 0, 1);
        z.place(3, 0, 1);
        // place 3: 2 and 1 have its own line, so place 0 counts
        dueCheck("past those with its own line", 0, z, 0, 2, 2, 2);
        VerseBench u = lettered(0, 1, 0, 0);
        u.place(2, 0, 1);
        u.place(3, 0, 1);
        dueCheck("past those with its own line, to one that it does not rhyme with", 25, u, 0, 1, 1, 1);
        everyPair();
    }

    /** Four places of two letters, and lines 0 .. 15, of which those rhyme whose numbers are alike modulo 4. */
    private static VerseBench sixteen() {
        VerseBench x = words(16);
        for (int w = 0; w < 16; w++) Dues.say(x, w, 10 + w, v(1, 2), 30 + w % 4);
        for (int w = 0; w < 16; w++) Dues.lineOf(x, w);
        Dues.marks(x, 1);
        x.form(4);
        letters(x, 0, 0, 1, 1);
        return x;
    }

    private void everyPair() {
        for (int one = 0; one < 16; one++) {
            VerseBench x = sixteen();
            for (int two = 0; two < 16; two++) {
                if (two == one) continue;
                dueCheck("lines " + one + " and " + two, one % 4 == two % 4 ? 21 : 15, x, one, two);
            }
        }
        // the numbers of both pairs make up one sum; the first pair rhymes, the second does not
        dueCheck("2 and 6, then 3 and 5", 35, sixteen(), 2, 6, 3, 5);
        dueCheck("8 and 12, then 9 and 11", 35, sixteen(), 8, 12, 9, 11);
    }

    private void firstFinding() {
        s.term(4, "The first place, of it the first of these.", 25);
        VerseBench x = lettered(0, 0);
        x.place(1, 0, 0);
        dueCheck("2 ahead of 4", 12, x, 0, 6);
        dueCheck("2 ahead of 5", 12, x, 0, 1);
        dueCheck("3 ahead of 5", 23, lettered(0, 1, 1), 0, 1, 0);
        VerseBench y = stanza(2);
        y.word(0);
        Dues.say(y, 7, v(4, 2), v(4, 2), 30, 31);
        Dues.lineOf(y, 7);
        dueCheck("4 ahead of 5", 14, y, 0, 7);
        dueCheck("4 at the first place, 1 at the second", 4, lettered(0, 1), 6, NONE);
        dueCheck("5 at the second place, 3 at the third", 15, lettered(0, 0, 0), 0, 1, 0);
        dueCheck("4 at the first place, 3 at the second", 4, lettered(0, 1), 6, 6);
    }

    private void filling() {
        s.term(4, "FILLING: places that are empty get LINES so that the CHECK finds nothing:", 26);
        VerseBench x = lettered(0, 1, 0, 1);
        setAll(x, NONE, 3, 4, NONE);
        dueComplete("those that are empty", 1, 20000, x, 0, 3, 4, 1);
        s.due("the check finds nothing", 0, x.check());
        dueComplete("none is empty", 1, 1, x, 0, 3, 4, 1);
        VerseBench y = lettered(0, 0);
        setAll(y, 0, 1);
        dueComplete("none is empty, and the check finds something", 0, 1, y, 0, 1);
        VerseBench z = lettered(0, 1);
        setAll(z, 6, NONE);
        dueComplete("a told one does not fit", 0, 1, z, 6, NONE);
        VerseBench u = stanza(2);
        u.loose(1);
        u.near(3);
        u.set(0, 5);
        dueComplete("loosely, but nothing is near", 0, 20000, u, 5, NONE);
        u.near(100);
        dueComplete("loosely, all is near", 1, 20000, u, 5, 0);
        s.term(4, "places rising, LINES by number; what comes first is told;", 26);
        dueComplete("the least line at the first place", 1, 20000, lettered(0, 1, 2), 0, 1, 2);
        dueComplete("the least that rhymes", 1, 20000, lettered(0, 0, 0), 0, 2, 4);
        VerseBench back = lettered(0, 0, 1, 1);
        back.set(3, 4);
        // with 0 at the first place the second is 2 or 4, and neither leaves one for the third
        dueComplete("back to the first place", 1, 20000, back, 1, 3, 0, 4);
        VerseBench last = lettered(0);
        for (int line = 7; line < 16; line++) Dues.lineOf(last, 0, 0);
        Dues.marks(last, 1, 1);
        dueComplete("line 6 has two syllables", 1, 7, last, 6);
    }

    private void tries() {
        s.term(4, "SPENT, if more than so many TRIES", 26);
        // 0; 0, 1; 0, 1, 2; 0, 1, 2, 3
        for (int tries = 1; tries < 10; tries++) dueComplete(tries + " tries", SPENT, tries, lettered(0, 1, 0, 1), NONE, NONE, NONE, NONE);
        dueComplete("just so many", 1, 10, lettered(0, 1, 0, 1), 0, 1, 2, 3);
        s.term(4, "(a TRY: a LINE put at a place, right or not;", 26);
        VerseBench x = lettered(0, 1);
        x.set(1, 5);
        dueComplete("a right one", 1, 1, x, 0, 5);
        VerseBench y = lettered(0);
        Dues.marks(y, 1, 1);
        dueComplete("six that do not fit and one that does", SPENT, 6, y, NONE);
        dueComplete("six that do not fit and one that does", 1, 7, y, 6);
        VerseBench none = lettered(0);
        Dues.marks(none, 0);
        dueComplete("seven that do not fit", SPENT, 6, none, NONE);
        dueComplete("seven that do not fit", 0, 7, none, NONE);
        s.term(4, "what the CHECK finds at a place is asked as it is come to)", 26);
        VerseBench z = lettered(0, 1);
        z.set(1, 6);
        // six of the seven lines are right at the first place, and the second is wrong each time
        dueComplete("a told one that does not fit, behind an empty one", SPENT, 6, z, NONE, 6);
        dueComplete("a told one that does not fit, behind an empty one", 0, 7, z, NONE, 6);
        VerseBench u = lettered(0, 1);
        u.set(0, 6);
        dueComplete("a told one that does not fit, ahead of an empty one", 0, 1, u, 6, NONE);
        VerseBench v = lettered(0, 1, 0);
        setAll(v, 5, NONE, NONE);
        // five lines are right at the second place, and for each all seven are tried at the third
        dueComplete("nothing is looked at ahead of its turn", SPENT, 7 + 5 * 7 - 1, v, 5, NONE, NONE);
        dueComplete("nothing is looked at ahead of its turn", 0, 7 + 5 * 7, v, 5, NONE, NONE);
        s.term(4, " are done.", 26);
        VerseBench w = lettered(0, 1);
        w.set(1, 0);
        dueComplete("one too few", SPENT, 1, w, NONE, 0);
        dueComplete("so many are not more than so many", 1, 2, w, 1, 0);
    }

    private void againInTheFilling() {
        s.term(4, "A place that must be again is filled by what is there (no TRY).", 26);
        VerseBench x = stanza(14);
        for (int i = 1; i < 14; i++) x.place(i, i % 8, i - 1);
        dueComplete("thirteen, each again from the place ahead", 1, 1, x, 0, 0, 0, 0, 0, 0, 0, 0, 0, 0, 0, 0, 0, 0);
        VerseBench y = stanza(14);
        for (int i = 1; i < 14; i++) y.place(i, 0, 0);
        y.set(0, 5);
        dueComplete("what was told", 1, 1, y, 5, 5, 5, 5, 5, 5, 5, 5, 5, 5, 5, 5, 5, 5);
        VerseBench z = stanza(4);
        letters(z, 0, 0, 0, 1);
        z.place(2, 0, 0);
        // 0; 0, 1, 2; again; 0, 1
        dueComplete("no try", SPENT, 5, z, NONE, NONE, NONE, NONE);
        dueComplete("no try", 1, 6, z, 0, 2, 0, 1);
        VerseBench told = stanza(2);
        told.place(1, 0, 0);
        told.set(1, 4);
        // 0, 1, 2, 3, 4 at the first place until the told one is there again
        dueComplete("a told one that must be again", SPENT, 4, told, NONE, 4);
        dueComplete("a told one that must be again", 1, 5, told, 4, 4);
        VerseBench wrong = lettered(0, 1, 1);
        wrong.place(2, 1, 0);
        wrong.set(1, 1);
        // 0, 2, 4, 5 at the first place do not rhyme with 1 at the third; 1 stands there already; 3 does
        dueComplete("what is there must do there, too", SPENT, 3, wrong, NONE, 1, NONE);
        dueComplete("what is there must do there, too", 1, 4, wrong, 3, 1, 3);
        VerseBench never = stanza(2);
        never.place(1, 0, 0);
        setAll(never, 0, 2);
        dueComplete("both told, and not alike", 0, 1, never, 0, 2);
    }

    private void form() {
        s.promise(21, "THE FORM has n places (0 .. 14),");
        for (int n = 0; n <= 14; n++) {
            VerseBench x = stanza(7);
            s.due("of " + n, n, x.form(n));
            s.due("places", n, x.count(4));
            if (n > 0) s.due("the last place", NONE, x.stands(n - 1));
            s.due("no more", BAD, x.stands(n));
        }
        s.promise(21, "all of letter 0,");
        for (int i = 1; i < 14; i++) {
            VerseBench x = alikeBut(i);
            s.due("place 0 and place " + i, 10 * i + 5, x.check());
            x.place(0, 0, NONE);
            s.due("letter 0 and place " + i, 10 * i + 5, x.check());
        }
        s.promise(21, "none again,");
        VerseBench again = stanza(2);
        again.place(1, 0, 0);
        again.form(2);
        dueCheck("need not be again", 0, again, 0, 2);
        dueCheck("must not be again", 13, again, 0, 0);
        s.promise(21, "not loose;");
        VerseBench loose = stanza(2);
        loose.loose(1);
        loose.form(2);
        s.due("not loose", 0, loose.loose(0));
        s.promise(21, "THE STANZA is empty: n.");
        VerseBench full = stanza(14);
        for (int i = 0; i < 14; i++) full.set(i, 0);
        s.due("of 14 again", 14, full.form(14));
        for (int i = 0; i < 14; i++) s.due("empty", NONE, full.stands(i));
        s.due("so many are empty", 14, full.count(5));
        s.promise(21, " BAD.");
        for (int wrong : new int[] {-1, 15, LOW, HIGH}) s.refused("form(" + wrong + ")", BAD, EdgesOfWords::rich, u -> u.form(wrong));
    }

    private void place() {
        s.promise(22, "A place's letter, and which place ahead it must be again (NONE): 0.");
        VerseBench x = stanza(14);
        for (int i = 0; i < 14; i++) {
            for (int again = NONE; again < i; again++) s.due("place " + i + ", again " + again, 0, x.place(i, i % 8, again));
        }
        VerseBench y = lettered(0, 0);
        setAll(y, 0, 1);
        s.due("of one letter", 15, y.check());
        y.place(1, 7, NONE);
        s.due("of another letter; the stanza stays", 0, y.check());
        y.place(1, 7, 0);
        s.due("must be again", 12, y.check());
        y.place(1, 7, NONE);
        s.due("need not", 0, y.check());
        s.promise(22, "BAD: place, letter, again (not ahead).");
        Supplier<VerseBench> made = EdgesOfWords::rich;
        for (int wrong : new int[] {-1, 4, 13, 14, LOW, HIGH}) s.refused("place " + wrong, BAD, made, z -> z.place(wrong, 0, NONE));
        for (int wrong : new int[] {-1, 8, LOW, HIGH}) s.refused("letter " + wrong, BAD, made, z -> z.place(1, wrong, NONE));
        for (int wrong : new int[] {-2, 2, 3, LOW, HIGH}) s.refused("again " + wrong, BAD, made, z -> z.place(2, 5, wrong));
        s.refused("the first has none ahead", BAD, made, z -> z.place(0, 5, 0));
        s.due("the place right ahead", 0, made.get().place(2, 5, 1));
    }

    private void loose() {
        s.promise(23, "THE FORM is loose (1) or not (0): what it was.");
        VerseBench x = new VerseBench();
        s.due("was not", 0, x.loose(1));
        s.due("was", 1, x.loose(1));
        s.due("was", 1, x.loose(0));
        s.due("was not", 0, x.loose(0));
        s.promise(23, " BAD.");
        for (int wrong : new int[] {-1, 2, LOW, HIGH}) s.refused("loose(" + wrong + ")", BAD, EdgesOfWords::rich, y -> y.loose(wrong));
    }

    private void set() {
        s.promise(24, "A LINE (or NONE) is at a place of THE STANZA: what was.");
        VerseBench x = stanza(14);
        s.due("was none", NONE, x.set(13, 6));
        s.due("was the last line", 6, x.set(13, 0));
        s.due("was the first line", 0, x.set(13, NONE));
        s.due("was none", NONE, x.set(13, NONE));
        s.due("another place", NONE, x.stands(0));
        s.promise(24, " BAD.");
        Supplier<VerseBench> made = EdgesOfWords::rich;
        for (int wrong : new int[] {-1, 4, 13, 14, LOW, HIGH}) s.refused("place " + wrong, BAD, made, y -> y.set(wrong, 0));
        for (int wrong : new int[] {-2, 5, 15, 16, LOW, HIGH}) s.refused("line " + wrong, BAD, made, y -> y.set(0, wrong));
        s.due("a form without places", BAD, new VerseBench().set(0, NONE));
    }

    private void check() {
        s.promise(25, "What THE CHECK finds: 10 * place, and 1 .. 5;");
        dueCheck("1", 11, lettered(0, 1), 0, NONE);
        VerseBench x = lettered(0, 1);
        x.place(1, 1, 0);
        dueCheck("2", 12, x, 0, 1);
        dueCheck("3", 13, lettered(0, 1), 0, 0);
        dueCheck("4", 14, lettered(0, 1), 0, 6);
        dueCheck("5", 15, lettered(0, 0), 0, 1);
        VerseBench last = stanza(14);
        for (int i = 1; i < 14; i++) last.place(i, 1, 0);
        last.place(13, 0, NONE);
        for (int i = 0; i < 13; i++) last.set(i, 0);
        dueLast(last, NONE, 131);
        dueLast(last, 0, 133);
        dueLast(last, 6, 134);
        dueLast(last, 1, 135);
        last.place(13, 0, 0);
        dueLast(last, 1, 132);
        s.promise(25, "0: nothing.");
        dueLast(last, 0, 0);
        s.due("no places", 0, new VerseBench().check());
        dueCheck("one place", 0, lettered(7), 5);
    }

    private void dueLast(VerseBench x, int line, int want) {
        x.set(13, line);
        s.due("the last of fourteen has line " + line, want, x.check());
    }

    /** Places of different letters, of which the last has a line that does not fit; so many others fit, one a place. */
    private static VerseBench hopeless(int open, int fitting) {
        VerseBench x = said(row(v(1, 2)), row(v(1, 2), v(1, 2)));
        for (int k = 0; k < fitting; k++) Dues.lineOf(x, 0);
        Dues.lineOf(x, 1);
        Dues.marks(x, 1);
        x.form(open + 1);
        for (int i = 0; i <= open; i++) x.place(i, i, NONE);
        x.set(open, fitting);
        return x;
    }

    private void complete() {
        s.promise(26, "FILLING with at most so many TRIES (1 .. 20000): 1 (THE STANZA is so),");
        dueComplete("one try", 1, 1, lettered(0), 0);
        dueComplete("20000 tries", 1, 20000, lettered(0, 0), 0, 2);
        dueComplete("no places", 1, 1, new VerseBench());
        s.promise(26, "0 if there is none (it stays).");
        // 13 lines at each place, of which 12, 11, 10 and 9 are right
        int all = 13 * (1 + 12 + 12 * 11 + 12 * 11 * 10);
        dueComplete("all are tried", 0, 20000, hopeless(4, 12), NONE, NONE, NONE, NONE, 12);
        dueComplete("all are tried, just so many", 0, all, hopeless(4, 12), NONE, NONE, NONE, NONE, 12);
        VerseBench x = new VerseBench();
        x.form(14);
        dueComplete("no lines", 0, 1, x, NONE, NONE, NONE, NONE, NONE, NONE, NONE, NONE, NONE, NONE, NONE, NONE, NONE, NONE);
        VerseBench some = lettered(0, 0, 1);
        setAll(some, 0, NONE, 2);
        dueComplete("one is left", 1, 20000, some, 0, 4, 2);
        setAll(some, 5, NONE, 2);
        dueComplete("none is left", 0, 20000, some, 5, NONE, 2);
        s.promise(26, " BAD;");
        for (int wrong : new int[] {0, -1, 20001, LOW, HIGH}) s.refused("complete(" + wrong + ")", BAD, EdgesOfWords::rich, y -> y.complete(wrong));
        for (int wrong : new int[] {0, 20001}) s.due("even if there is nothing to fill", BAD, new VerseBench().complete(wrong));
        s.promise(26, "SPENT (it stays).");
        s.due("the constant", -6, VerseBench.SPENT);
        dueComplete("one too few", SPENT, all - 1, hopeless(4, 12), NONE, NONE, NONE, NONE, 12);
        dueComplete("more than 20000", SPENT, 20000, hopeless(4, 13), NONE, NONE, NONE, NONE, 13);
        VerseBench z = lettered(0, 1, 2);
        setAll(z, NONE, 1, NONE);
        s.refused("spent", SPENT, () -> told(NONE, 1, NONE), y -> y.complete(1));
        s.due("not again the tries of the last call", SPENT, z.complete(2));
        s.due("but all of them", 1, z.complete(4));
        dueStands("then", z, 0, 1, 2);
        setAll(z, NONE, 1, NONE);
        s.due("many tries that are not needed", 1, z.complete(20000));
        setAll(z, NONE, 1, NONE);
        s.due("are not there for the next call", SPENT, z.complete(3));
    }

    private static VerseBench told(int... lines) {
        VerseBench x = lettered(0, 1, 2);
        setAll(x, lines);
        return x;
    }

    private void stands() {
        s.promise(27, "The LINE at a place of THE STANZA;");
        VerseBench x = stanza(14);
        x.set(0, 6);
        x.set(13, 0);
        s.due("the first place", 6, x.stands(0));
        s.due("the last place", 0, x.stands(13));
        s.promise(27, " NONE.");
        for (int i = 1; i < 13; i++) s.due("place " + i, NONE, x.stands(i));
        s.promise(27, " BAD.");
        for (int wrong : new int[] {-1, 14, LOW, HIGH}) s.due("place " + wrong, BAD, x.stands(wrong));
        for (int wrong : new int[] {-1, 4, 13, 14, LOW, HIGH}) s.refused("place " + wrong, BAD, EdgesOfWords::rich, y -> y.stands(wrong));
        s.due("a form without places", BAD, new VerseBench().stands(0));
    }

    private void dueCount(int what, int want, VerseBench x) {
        s.due("count(" + what + ")", want, x.count(what));
    }

    private void count() {
        VerseBench none = new VerseBench();
        VerseBench all = words(24);
        for (int w = 0; w < 24; w++) {
            for (int k = 0; k < 3; k++) Dues.say(all, w, v(1, 0));
            all.writing(w, w % 9);
        }
        for (int line = 0; line < 16; line++) Dues.lineOf(all, 0);
        all.meter(12, 0);
        all.form(14);
        String[] words = {"How many: 0 WORDS,", "1 SAYINGS of all,", "2 LINES,", "3 marks,", "4 places of THE FORM,", "5 of these empty,", "6 WRITINGS that are not MISSING."};
        int[] most = {24, 72, 16, 12, 14, 14, 24};
        for (int what = 0; what <= 6; what++) {
            s.promise(28, words[what]);
            dueCount(what, what == 3 ? 1 : 0, none);
            dueCount(what, most[what], all);
            if (what == 5) dueEmpty(all);
            if (what == 6) dueWritings();
        }
        s.promise(28, " BAD.");
        for (int wrong : new int[] {-1, 7, LOW, HIGH}) s.refused("count(" + wrong + ")", BAD, EdgesOfWords::rich, x -> x.count(wrong));
    }

    private void dueEmpty(VerseBench x) {
        for (int i = 0; i < 14; i++) {
            x.set(i, 15);
            dueCount(5, 13 - i, x);
        }
        x.set(0, NONE);
        dueCount(5, 1, x);
        x.set(0, NONE);
        dueCount(5, 1, x);
    }

    private void dueWritings() {
        VerseBench x = words(2);
        x.writing(0, 0);
        dueCount(6, 1, x);
        x.writing(0, 8);
        dueCount(6, 1, x);
        x.writing(1, -1);
        dueCount(6, 1, x);
        x.writing(1, 1);
        dueCount(6, 2, x);
    }
}
