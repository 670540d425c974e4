/** Runs of calls drawn from a told seed, each answered by the class and by PlainBench. */
public final class RandomRunsTest {
    private static final int RUNS = 1500, CALLS = 400;
    private static final int[] EDGES = {
        Integer.MIN_VALUE, Integer.MIN_VALUE + 1, -1000, -129, -128, -14, -13, -5, -3, -2, -1, 0, 1, 2, 3, 5, 6, 7, 8, 9,
        11, 12, 13, 14, 15, 16, 23, 24, 25, 39, 40, 47, 48, 100, 101, 127, 128, 255, 256, 531440, 531441, 19999, 20000,
        20001, 1000000, Integer.MAX_VALUE - 8, Integer.MAX_VALUE - 1, Integer.MAX_VALUE};

    private final Dues dues = new Dues("RandomRunsTest");
    private long seed = 20240607L;
    private VerseBench x;
    private PlainBench y;
    private int run;
    private int call;
    // what this run likes: few sounds make many rhymes, few syllables make lines that fit
    private int soundRange;
    private int mostSounds;
    private int wild;
    // a run of verse keeps to short lines, a short meter and a stanza that is nearly full
    private boolean isVerse;

    private int below(int bound) {
        seed = seed * 6364136223846793005L + 1442695040888963407L;
        return (int) ((seed >>> 33) % bound);
    }

    private long anyLong() {
        return ((long) below(1 << 30) << 34) ^ ((long) below(1 << 30) << 10) ^ below(1 << 30);
    }

    /** Mostly a number from low to high; sometimes any other. */
    private int number(int low, int high) {
        if (below(100) >= wild) return low + below(Math.max(1, high - low + 1));
        return below(3) == 0 ? (int) anyLong() : below(2) == 0 ? EDGES[below(EDGES.length)] : low - 1 + below(Math.max(1, high - low + 3));
    }

    private int anyWord() {
        return number(0, y.words.size() - 1);
    }

    private int anyLine() {
        return number(0, y.lines.size() - 1);
    }

    private int anyPlace() {
        return number(0, y.places - 1);
    }

    private void due(String call, int want, int got) {
        dues.due("run " + run + " call " + this.call + " " + call, want, got);
    }

    private int soundByte(boolean vowel) {
        if (below(400) < wild) return below(256);
        if (!vowel) return 10 + below(soundRange) + (below(3) == 0 ? 5 : 0);
        return 40 * below(3) + below(Math.min(10, soundRange));
    }

    private void callSaying() {
        int n = below(60) < wild ? number(-1, 14) : 1 + below(mostSounds);
        int[] bytes = new int[16];
        boolean any = below(20) == 0;
        for (int k = 0; k < 16; k++) bytes[k] = soundByte(below(2) == 0 || (!any && k == 0));
        long first = below(200) < wild ? anyLong() : Dues.first(bytes);
        long second = Dues.second(bytes);
        int w = anyWord();
        due("saying(" + w + ", " + n + ", " + first + ", " + second + ")", y.saying(w, n, first, second), x.saying(w, n, first, second));
    }

    private void callLine() {
        int n = below(60) < wild ? number(-1, 10) : 1 + below(isVerse ? 3 : 8);
        int[] row = new int[Math.max(0, Math.min(n, 10))];
        for (int k = 0; k < row.length; k++) row[k] = below(200) < wild ? below(24) : below(Math.max(1, y.words.size()));
        long digits = below(200) < wild ? anyLong() : Dues.digits(24, row);
        due("line(" + n + ", " + digits + ")", y.line(n, digits), x.line(n, digits));
    }

    private void callMeter() {
        if (isVerse && below(4) != 0) return;
        int n = number(1, isVerse ? 4 : 12);
        int most = (int) Math.round(Math.pow(3, Math.max(0, Math.min(n, 12))));
        int marks = below(60) < wild ? number(-1, most) : below(isVerse ? 2 : 4) == 0 ? most - 1 : below(most);
        due("meter(" + n + ", " + marks + ")", y.meter(n, marks), x.meter(n, marks));
    }

    private void callOfWords(int which) {
        int a = anyWord();
        int b = anyWord();
        int c = number(0, 6);
        switch (which) {
            case 0: c = number(0, 5); due("word(" + c + ")", y.word(c), x.word(c)); break;
            case 1: c = number(0, 8); due("writing(" + a + ", " + c + ")", y.writing(a, c), x.writing(a, c)); break;
            case 2: {
                int place = number(0, 7);
                int v = below(3) == 0 ? number(-128, 127) : number(0, 1);
                due("spell(" + a + ", " + place + ", " + v + ")", y.spell(a, place, v), x.spell(a, place, v));
                break;
            }
            case 3: {
                int place = number(0, 4);
                int many = number(0, 5);
                if (below(3) == 0) b = a;
                due("copy(" + a + ", " + b + ", " + place + ", " + many + ")", y.copy(a, b, place, many), x.copy(a, b, place, many));
                break;
            }
            case 4: {
                boolean vowel = below(2) == 0;
                int sound = vowel ? number(0, 9) : number(10, 39);
                int said = vowel ? number(0, 9) : number(10, 39);
                due("speech(" + sound + ", " + said + ")", y.speech(sound, said), x.speech(sound, said));
                break;
            }
            case 5: {
                int saying = number(0, 2);
                int what = number(0, 15);
                due("told(" + a + ", " + saying + ", " + what + ")", y.told(a, saying, what), x.told(a, saying, what));
                break;
            }
            case 6: c = number(0, 100); due("near(" + c + ")", y.near(c), x.near(c)); break;
            case 7: due("rhyme(" + a + ", " + b + ", " + c + ")", y.rhyme(a, b, c), x.rhyme(a, b, c)); break;
            case 8: due("how(" + a + ", " + b + ", " + c + ")", y.how(a, b, c), x.how(a, b, c)); break;
            case 9: due("cost(" + a + ", " + b + ")", y.cost(a, b), x.cost(a, b)); break;
            case 10: b = number(0, 8); due("rhymes(" + a + ", " + c + ", " + b + ")", y.rhymes(a, c, b), x.rhymes(a, c, b)); break;
            default: b = number(0, 6); due("broken(" + a + ", " + b + ")", y.broken(a, b), x.broken(a, b)); break;
        }
    }

    private void callOfLines(int which) {
        int a = anyLine();
        int b = number(0, 8);
        int i = anyPlace();
        switch (which) {
            case 0: callMeter(); break;
            case 1: callLine(); break;
            case 2: due("inLine(" + a + ", " + b + ")", y.inLine(a, b), x.inLine(a, b)); break;
            case 3: due("layings(" + a + ")", y.layings(a), x.layings(a)); break;
            case 4: due("laid(" + a + ")", y.laid(a), x.laid(a)); break;
            case 5: {
                int placeHeap = number(0, y.noLine(a) ? 23 : 6 * y.lines.get(a).length - 1);
                int rhyme = below(2) == 0 ? -1 : anyWord();
                b = number(0, 3);
                due("fill(" + a + ", " + placeHeap + ", " + rhyme + ", " + b + ")", y.fill(a, placeHeap, rhyme, b), x.fill(a, placeHeap, rhyme, b));
                break;
            }
            case 6: b = number(0, isVerse ? 6 : 14); if (below(isVerse ? 40 : 4) == 0) due("form(" + b + ")", y.form(b), x.form(b)); break;
            case 7: {
                int letter = below(2) == 0 ? number(0, 2) : number(0, 7);
                int again = below(4) != 0 ? -1 : number(0, i - 1);
                due("place(" + i + ", " + letter + ", " + again + ")", y.place(i, letter, again), x.place(i, letter, again));
                break;
            }
            case 8: b = number(0, 1); due("loose(" + b + ")", y.loose(b), x.loose(b)); break;
            case 9: if (below(isVerse ? 12 : 2) == 0) a = -1; due("set(" + i + ", " + a + ")", y.set(i, a), x.set(i, a)); break;
            case 10: due("check()", y.check(), x.check()); break;
            case 11: b = below(3) == 0 ? number(1, 20000) : number(1, 200); due("complete(" + b + ")", y.complete(b), x.complete(b)); break;
            case 12: due("stands(" + i + ")", y.stands(i), x.stands(i)); break;
            default: b = number(0, 6); due("count(" + b + ")", y.count(b), x.count(b)); break;
        }
    }

    private void oneCall() {
        int drawn = below(call < 120 ? 100 : 70);
        if (drawn >= 70) {
            // a run begins with what later calls ask about
            if (drawn < 78) callOfWords(0);
            else if (drawn < 90) callSaying();
            else if (drawn < 95) callLine();
            else if (drawn < 97) callOfWords(1);
            else if (drawn < 98) callOfLines(6);
            else callOfLines(9);
        } else if (drawn < 5) {
            callSaying();
        } else if (drawn < 35) {
            callOfWords(below(12));
        } else {
            callOfLines(below(14));
        }
    }

    private void oneRun() {
        x = new VerseBench();
        y = new PlainBench();
        isVerse = below(2) == 0;
        soundRange = 1 + below(4) * below(isVerse ? 2 : 6);
        mostSounds = 1 + below(!isVerse && below(4) == 0 ? 12 : 4);
        wild = below(3) == 0 ? 12 : below(2);
        if (isVerse) due("form(5)", y.form(5), x.form(5));
        if (isVerse) due("meter(2, 8)", y.meter(2, 8), x.meter(2, 8));
        for (call = 1; call <= CALLS && !dues.isAnyWrong(); call++) oneCall();
        for (int i = 0; i < 14; i++) due("stands(" + i + ")", y.stands(i), x.stands(i));
        for (int k = 0; k < 7; k++) due("count(" + k + ")", y.count(k), x.count(k));
    }

    public static void main(String[] args) {
        RandomRunsTest test = new RandomRunsTest();
        for (test.run = 1; test.run <= RUNS && !test.dues.isAnyWrong(); test.run++) test.oneRun();
        test.dues.end();
    }
}
