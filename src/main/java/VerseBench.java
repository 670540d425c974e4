import java.util.ArrayList;
import java.util.Arrays;

/** A bench for verse makers: words and their sayings, rhymes, lines laid on a meter, forms and their filling. */
public final class VerseBench {
    public static final int NONE = -1, BAD = -3, NO = -4, FULL = -5, SPENT = -6, NOTHING = -11, INDEX = -13, SIZE = -14;

    private static final int MOST_WORDS = 24, MOST_SAYINGS = 3, MOST_BYTES = 8, HEAPS = 6;
    private static final int SOUNDS = 40, VOWELS = 10, STRESSES = 3, MOST_SOUNDS = 12, SOUNDS_IN_A_LONG = 8;
    private static final int RHYME = 0, RICH = 1, VOWEL_RHYME = 2, ENDS = 3, NEAR = 4, EYE = 5, PERFECT = 6;
    private static final int MOST_NEAR = 100, NEAR_AT_FIRST = 10, EYE_BYTES = 3;
    private static final int MOST_MARKS = 12, MARK_KINDS = 3, WEAK = 0, STRONG = 1, EITHER = 2;
    private static final int MOST_LINES = 16, MOST_IN_LINE = 8, MOST_LAYINGS = 1000000;
    private static final int MOST_PLACES = 14, LETTERS = 8, MOST_TRIES = 20000;
    private static final int UNKNOWN = 0, YES = 1, DENIED = 2;

    private final ArrayList<Word> words;
    private final ArrayList<Line> lines;
    private final Ear ear;
    private final Scansion scansion;
    private final Form pattern;
    private final int[] nearKeys;
    private final int[] fitMemo;
    private final int[] rhymeMemo;
    private int triesLeft;

    public VerseBench() {
        words = new ArrayList<Word>();
        lines = new ArrayList<Line>();
        ear = new Ear();
        scansion = new Scansion();
        pattern = new Form();
        nearKeys = new int[MOST_WORDS];
        fitMemo = new int[MOST_LINES];
        rhymeMemo = new int[MOST_LINES * MOST_LINES];
        triesLeft = 0;
    }

    // ---- words

    public int word(int heap) {
        if (heap < 0 || heap >= HEAPS) return BAD;
        if (words.size() >= MOST_WORDS) return FULL;
        words.add(new Word(heap));
        return words.size() - 1;
    }

    public int saying(int word, int n, long first, long second) {
        Word said = wordAt(word);
        if (said == null || n < 1 || n > MOST_SOUNDS || !canBeSaid(n, first, second)) return BAD;
        if (said.sayings.size() >= MOST_SAYINGS) return FULL;
        said.sayings.add(new Saying(n, first, second));
        return said.sayings.size() - 1;
    }

    public int writing(int word, int n) {
        Word written = wordAt(word);
        if (written == null || n > MOST_BYTES) return BAD;
        if (n < 0) return SIZE;
        Arrays.fill(written.bytes, (byte) 0);
        written.length = n;
        return n;
    }

    public int spell(int word, int place, int v) {
        Word spelt = wordAt(word);
        if (spelt == null) return BAD;
        if (spelt.length == NONE) return NOTHING;
        if (place < 0 || place >= spelt.length) return INDEX;
        if (v < -128 || v > 127) return BAD;
        int was = spelt.bytes[place];
        spelt.bytes[place] = (byte) v;
        return 1000 + was;
    }

    public int copy(int from, int to, int place, int many) {
        Word source = wordAt(from);
        Word target = wordAt(to);
        if (source == null || target == null) return BAD;
        if (source.length == NONE || target.length == NONE) return NOTHING;
        if (many < 0 || many > source.length) return INDEX;
        if (place < 0 || place > target.length - many) return INDEX;
        System.arraycopy(source.bytes, 0, target.bytes, place, many);
        return many;
    }

    public int speech(int sound, int said) {
        if (sound < 0 || sound >= SOUNDS || said < 0 || said >= SOUNDS) return BAD;
        if (isVowel(sound) != isVowel(said)) return BAD;
        int was = ear.heardFor[sound];
        ear.heardFor[sound] = said;
        return was;
    }

    public int told(int word, int saying, int what) {
        Word asked = wordAt(word);
        if (asked == null || saying < 0 || saying >= asked.sayings.size()) return BAD;
        Saying one = asked.sayings.get(saying);
        switch (what) {
            case 0: return one.size;
            case 1: return one.syllables;
            case 2: return one.tail;
            case 3: return one.top;
            default: break;
        }
        if (what < 4 || what >= 4 + MOST_SOUNDS) return BAD;
        return what - 4 < one.size ? ear.heardAt(one, what - 4) : INDEX;
    }

    // ---- rhymes

    public int near(int v) {
        if (v < 0 || v > MOST_NEAR) return BAD;
        int was = ear.near;
        ear.near = v;
        return was;
    }

    public int rhyme(int w, int u, int kind) {
        if (!areWordsAndKind(w, u, kind)) return BAD;
        return firstPair(w, u, kind) == NONE ? 0 : 1;
    }

    public int how(int w, int u, int kind) {
        if (!areWordsAndKind(w, u, kind)) return BAD;
        return firstPair(w, u, kind);
    }

    public int cost(int w, int u) {
        Word one = wordAt(w);
        Word other = wordAt(u);
        if (one == null || other == null) return BAD;
        return ear.leastCost(one, other);
    }

    public int rhymes(int w, int kind, int i) {
        if (!areWordsAndKind(w, w, kind) || i < 0) return BAD;
        return kind == NEAR ? rhymeByCost(w, i) : rhymeByNumber(w, kind, i);
    }

    public int broken(int w, int i) {
        Word whole = wordAt(w);
        if (whole == null || i < 0) return BAD;
        int seen = 0;
        for (int u = 0; u < words.size(); u++) {
            for (int v = 0; v < words.size(); v++) {
                if (!ear.isBrokenRhyme(whole, words.get(u), words.get(v))) continue;
                if (seen == i) return MOST_WORDS * u + v;
                seen++;
            }
        }
        return NONE;
    }

    // ---- meters, lines

    public int meter(int n, int marks) {
        if (n < 1 || n > MOST_MARKS || marks < 0) return BAD;
        int rest = marks;
        for (int m = 0; m < n; m++) rest /= MARK_KINDS;
        if (rest != 0) return BAD;
        scansion.tellMarks(n, marks);
        return n;
    }

    public int line(int n, long words) {
        if (n < 1 || n > MOST_IN_LINE || words < 0 || !areAllThere(n, words)) return BAD;
        if (lines.size() >= MOST_LINES) return FULL;
        lines.add(new Line(n, words));
        return lines.size() - 1;
    }

    public int inLine(int line, int i) {
        Line asked = lineAt(line);
        if (asked == null || i < 0) return BAD;
        return i < asked.size ? asked.words[i] : NONE;
    }

    public int layings(int line) {
        Line asked = lineAt(line);
        if (asked == null) return BAD;
        lay(asked, NONE, NONE);
        return scansion.howMany();
    }

    public int laid(int line) {
        Line asked = lineAt(line);
        if (asked == null) return BAD;
        lay(asked, NONE, NONE);
        return scansion.leastCost();
    }

    public int fill(int line, int placeHeap, int rhyme, int i) {
        Line open = lineAt(line);
        if (open == null || placeHeap < 0 || placeHeap / HEAPS >= open.size) return BAD;
        if (rhyme != NONE && wordAt(rhyme) == null) return BAD;
        if (i < 0) return BAD;
        int heap = placeHeap % HEAPS;
        int seen = 0;
        for (int u = 0; u < words.size(); u++) {
            if (words.get(u).heap != heap) continue;
            if (rhyme != NONE && firstPair(u, rhyme, PERFECT) == NONE) continue;
            lay(open, placeHeap / HEAPS, u);
            if (scansion.howMany() == 0) continue;
            if (seen == i) return u;
            seen++;
        }
        return NONE;
    }

    // ---- forms

    public int form(int n) {
        if (n < 0 || n > MOST_PLACES) return BAD;
        pattern.startAnew(n);
        return n;
    }

    public int place(int i, int letter, int again) {
        if (!pattern.hasPlace(i) || letter < 0 || letter >= LETTERS) return BAD;
        if (again != NONE && (again < 0 || again >= i)) return BAD;
        pattern.letters[i] = letter;
        pattern.again[i] = again;
        return 0;
    }

    public int loose(int on) {
        if (on != 0 && on != 1) return BAD;
        int was = pattern.loose;
        pattern.loose = on;
        return was;
    }

    public int set(int i, int line) {
        if (!pattern.hasPlace(i) || (line != NONE && lineAt(line) == null)) return BAD;
        int was = pattern.stanza[i];
        pattern.stanza[i] = line;
        return was;
    }

    public int check() {
        forgetMemos();
        int used = 0;
        for (int i = 0; i < pattern.size; i++) {
            int finding = findingAt(pattern.stanza, i, used);
            if (finding != 0) return 10 * i + finding;
            used |= 1 << pattern.stanza[i];
        }
        return 0;
    }

    public int complete(int tries) {
        if (tries < 1 || tries > MOST_TRIES) return BAD;
        forgetMemos();
        triesLeft = tries;
        int answer = fillFrom(this, 0, 0);
        if (answer == 1) System.arraycopy(pattern.trial, 0, pattern.stanza, 0, pattern.size);
        return answer;
    }

    public int stands(int i) {
        return pattern.hasPlace(i) ? pattern.stanza[i] : BAD;
    }

    public int count(int what) {
        switch (what) {
            case 0: return words.size();
            case 1: return countSayings();
            case 2: return lines.size();
            case 3: return scansion.size;
            case 4: return pattern.size;
            case 5: return pattern.countEmpty();
            case 6: return countWritings();
            default: return BAD;
        }
    }

    // ---- words, looked up

    private Word wordAt(int word) {
        return word >= 0 && word < words.size() ? words.get(word) : null;
    }

    private int countSayings() {
        int many = 0;
        for (int w = 0; w < words.size(); w++) many += words.get(w).sayings.size();
        return many;
    }

    private int countWritings() {
        int many = 0;
        for (int w = 0; w < words.size(); w++) {
            if (words.get(w).length != NONE) many++;
        }
        return many;
    }

    private static boolean isVowel(int sound) {
        return sound < VOWELS;
    }

    private static int toldByte(long first, long second, int place) {
        long half = place < SOUNDS_IN_A_LONG ? first : second;
        return (int) (half >>> (8 * (place % SOUNDS_IN_A_LONG))) & 255;
    }

    private static boolean canBeSaid(int n, long first, long second) {
        boolean hasVowel = false;
        for (int k = 0; k < n; k++) {
            int told = toldByte(first, second, k);
            boolean vowel = isVowel(told % SOUNDS);
            if (told >= SOUNDS * STRESSES || (told >= SOUNDS && !vowel)) return false;
            hasVowel = hasVowel || vowel;
        }
        return hasVowel;
    }

    // ---- rhymes, looked for

    private boolean areWordsAndKind(int w, int u, int kind) {
        return wordAt(w) != null && wordAt(u) != null && kind >= RHYME && kind <= PERFECT;
    }

    private int firstPair(int w, int u, int kind) {
        Word one = wordAt(w);
        Word other = wordAt(u);
        if (w == u || one == null || other == null) return NONE;
        if (kind == EYE) return one.looksLike(other) ? 0 : NONE;
        return ear.firstPair(one, other, kind);
    }

    private int rhymeByNumber(int w, int kind, int i) {
        int seen = 0;
        for (int u = 0; u < words.size(); u++) {
            if (firstPair(w, u, kind) == NONE) continue;
            if (seen == i) return u;
            seen++;
        }
        return NONE;
    }

    private int rhymeByCost(int w, int i) {
        if (i >= words.size()) return NONE;
        for (int u = 0; u < nearKeys.length; u++) nearKeys[u] = nearKey(w, u);
        int key = NONE;
        for (int k = 0; k <= i; k++) {
            key = nextNearKey(key);
            if (key == NONE) return NONE;
        }
        return key % MOST_WORDS;
    }

    /** One number that orders by cost, then by word; NONE: no rhyme. */
    private int nearKey(int w, int u) {
        Word one = wordAt(w);
        Word other = wordAt(u);
        if (w == u || one == null || other == null) return NONE;
        int least = ear.leastCost(one, other);
        return least == NONE || least > ear.near ? NONE : least * MOST_WORDS + u;
    }

    private int nextNearKey(int last) {
        int next = NONE;
        for (int key : nearKeys) {
            if (key > last && (next == NONE || key < next)) next = key;
        }
        return next;
    }

    // ---- lines, looked up and laid

    private Line lineAt(int line) {
        return line >= 0 && line < lines.size() ? lines.get(line) : null;
    }

    private boolean areAllThere(int n, long numbers) {
        long rest = numbers;
        for (int k = 0; k < n; k++) {
            if (rest % MOST_WORDS >= words.size()) return false;
            rest /= MOST_WORDS;
        }
        return rest == 0;
    }

    /** Lays a line on the meter, with another word in its gap (NONE: it has no gap). */
    private void lay(Line line, int gap, int filler) {
        scansion.begin();
        for (int k = 0; k < line.size; k++) {
            Word next = wordAt(k == gap ? filler : line.words[k]);
            if (next != null) scansion.layWord(next);
        }
    }

    // ---- the check and the filling

    /** What was found of lines holds for one call only: words, speech and meter may change between calls. */
    private void forgetMemos() {
        Arrays.fill(fitMemo, UNKNOWN);
        Arrays.fill(rhymeMemo, UNKNOWN);
    }

    /** What the check finds at a place of a row whose places ahead are full; used has a bit for each line there. */
    private int findingAt(int[] row, int i, int used) {
        int line = row[i];
        if (line == NONE) return 1;
        int again = pattern.again[i];
        if (again != NONE && row[again] != line) return 2;
        if (again == NONE && (used >> line & 1) != 0) return 3;
        if (!fits(line)) return 4;
        int other = otherLineAhead(row, i);
        return other == NONE || areLinesRhyming(line, other) ? 0 : 5;
    }

    private int otherLineAhead(int[] row, int i) {
        for (int k = i - 1; k >= 0; k--) {
            if (pattern.letters[k] == pattern.letters[i] && row[k] != row[i]) return row[k];
        }
        return NONE;
    }

    private boolean fits(int number) {
        Line line = lineAt(number);
        if (line == null) return false;
        if (fitMemo[number] == UNKNOWN) {
            lay(line, NONE, NONE);
            fitMemo[number] = scansion.howMany() > 0 ? YES : DENIED;
        }
        return fitMemo[number] == YES;
    }

    private boolean areLinesRhyming(int first, int second) {
        int w = lastWordOf(first);
        int u = lastWordOf(second);
        Word one = wordAt(w);
        Word other = wordAt(u);
        if (w == u || one == null || other == null) return false;
        int pair = first * MOST_LINES + second;
        if (rhymeMemo[pair] == UNKNOWN) {
            boolean found = ear.firstPair(one, other, PERFECT) != NONE;
            if (!found && pattern.loose == 1) found = ear.firstPair(one, other, VOWEL_RHYME) != NONE;
            if (!found && pattern.loose == 1) found = ear.firstPair(one, other, NEAR) != NONE;
            rhymeMemo[pair] = found ? YES : DENIED;
        }
        return rhymeMemo[pair] == YES;
    }

    private int lastWordOf(int number) {
        Line line = lineAt(number);
        return line != null && line.size > 0 ? line.words[line.size - 1] : NONE;
    }

    /** Fills the trial row from a place on, at most as deep as a form has places: 1, 0 or SPENT. */
    private static int fillFrom(VerseBench bench, int i, int used) {
        if (i >= bench.pattern.size) return 1;
        int given = bench.pattern.givenAt(i);
        boolean isOpen = given == NONE;
        int last = isOpen ? bench.lines.size() - 1 : given;
        for (int line = isOpen ? 0 : given; line <= last; line++) {
            if (isOpen && bench.triesLeft <= 0) return SPENT;
            if (isOpen) bench.triesLeft--;
            bench.pattern.trial[i] = line;
            if (bench.findingAt(bench.pattern.trial, i, used) != 0) continue;
            int answer = fillFrom(bench, i + 1, used | 1 << line);
            if (answer != 0) return answer;
        }
        return 0;
    }

    /** A word: its heap, its sayings, and its writing of so many bytes (NONE: it is missing). */
    private static final class Word {
        final int heap;
        final ArrayList<Saying> sayings;
        final byte[] bytes;
        int length;

        Word(int heap) {
            this.heap = heap;
            sayings = new ArrayList<Saying>();
            bytes = new byte[MOST_BYTES];
            length = NONE;
        }

        boolean looksLike(Word other) {
            if (length < EYE_BYTES || other.length < EYE_BYTES) return false;
            for (int k = 1; k <= EYE_BYTES; k++) {
                if (bytes[length - k] != other.bytes[other.length - k]) return false;
            }
            return true;
        }
    }

    /** A row of sounds, and its syllables; it never changes, so what follows from it is kept. */
    private static final class Saying {
        final int size;
        final int[] sounds;
        final int syllables;
        final int[] vowels;
        final int[] stresses;
        final int lastVowel;
        final int top;
        final int tail;
        final int tailSyllable;
        final int topBehind;
        final int tailBehind;

        Saying(int n, long first, long second) {
            size = n;
            sounds = new int[n];
            vowels = new int[n];
            stresses = new int[n];
            int many = 0;
            int atTop = 0;
            int from = 0;
            int last = 0;
            for (int k = 0; k < n; k++) {
                int told = toldByte(first, second, k);
                sounds[k] = told % SOUNDS;
                if (!isVowel(sounds[k])) continue;
                vowels[many] = sounds[k];
                stresses[many] = told / SOUNDS;
                if (stresses[many] >= stresses[atTop]) {
                    atTop = many;
                    from = k;
                }
                last = k;
                many++;
            }
            syllables = many;
            lastVowel = last;
            top = stresses[atTop];
            tail = from;
            tailSyllable = atTop;
            // behind another word all stresses are one less, so that 1 and 0 are alike there
            topBehind = top == 2 ? 1 : 0;
            tailBehind = top == 2 ? from : last;
        }
    }

    /** A row of words, by number. */
    private static final class Line {
        final int size;
        final int[] words;

        Line(int n, long numbers) {
            size = n;
            words = new int[n];
            long rest = numbers;
            for (int k = 0; k < n; k++) {
                words[k] = (int) (rest % MOST_WORDS);
                rest /= MOST_WORDS;
            }
        }
    }

    /** Hears sayings as speech tells, and so tells which rhyme and what it costs. */
    private static final class Ear {
        final int[] heardFor;
        int near;
        private int[] costs;
        private int[] nextCosts;

        Ear() {
            heardFor = new int[SOUNDS];
            for (int sound = 0; sound < SOUNDS; sound++) heardFor[sound] = sound;
            near = NEAR_AT_FIRST;
            costs = new int[MOST_SOUNDS + 1];
            nextCosts = new int[MOST_SOUNDS + 1];
        }

        /** The sound at a place; NONE, if the saying does not go there. */
        int heardAt(Saying saying, int place) {
            return place >= 0 && place < saying.size ? heardFor[saying.sounds[place]] : NONE;
        }

        int firstPair(Word one, Word other, int kind) {
            for (int a = 0; a < one.sayings.size(); a++) {
                for (int b = 0; b < other.sayings.size(); b++) {
                    if (areRhyming(one.sayings.get(a), other.sayings.get(b), kind)) return MOST_SAYINGS * a + b;
                }
            }
            return NONE;
        }

        private boolean areRhyming(Saying a, Saying b, int kind) {
            switch (kind) {
                case RHYME: return areTailsAlike(a, b) && !areAlikeAhead(a, b);
                case RICH: return areTailsAlike(a, b) && areAlikeAhead(a, b);
                case VOWEL_RHYME: return areVowelsAlike(a, b);
                case ENDS: return a.lastVowel + 1 < a.size && areAlikeFrom(a, a.lastVowel + 1, b, b.lastVowel + 1);
                case NEAR: return costOfTails(a, b) <= near;
                case PERFECT: return areTailsAlike(a, b);
                default: return false;
            }
        }

        private boolean areTailsAlike(Saying a, Saying b) {
            return areAlikeFrom(a, a.tail, b, b.tail);
        }

        private boolean areAlikeAhead(Saying a, Saying b) {
            return heardAt(a, a.tail - 1) == heardAt(b, b.tail - 1);
        }

        private boolean areAlikeFrom(Saying a, int fromA, Saying b, int fromB) {
            if (a.size - fromA != b.size - fromB || fromA < 0 || fromB < 0) return false;
            int ahead = fromB - fromA;
            for (int k = fromA; k < a.size; k++) {
                if (heardFor[a.sounds[k]] != heardFor[b.sounds[k + ahead]]) return false;
            }
            return true;
        }

        private boolean areVowelsAlike(Saying a, Saying b) {
            if (a.syllables - a.tailSyllable != b.syllables - b.tailSyllable) return false;
            int ahead = b.tailSyllable - a.tailSyllable;
            for (int k = a.tailSyllable; k < a.syllables; k++) {
                if (heardFor[a.vowels[k]] != heardFor[b.vowels[k + ahead]]) return false;
            }
            return true;
        }

        int leastCost(Word one, Word other) {
            int least = NONE;
            for (int a = 0; a < one.sayings.size(); a++) {
                for (int b = 0; b < other.sayings.size(); b++) {
                    int found = costOfTails(one.sayings.get(a), other.sayings.get(b));
                    if (least == NONE || found < least) least = found;
                }
            }
            return least;
        }

        /** Row by row: costs[k] is the least for the sounds of a so far, and the first k of b. */
        private int costOfTails(Saying a, Saying b) {
            int many = b.size - b.tail;
            costs[0] = 0;
            for (int k = 0; k < many; k++) costs[k + 1] = costs[k] + costOfOne(heardAt(b, b.tail + k));
            for (int place = a.tail; place < a.size; place++) {
                int sound = heardAt(a, place);
                int out = costOfOne(sound);
                nextCosts[0] = costs[0] + out;
                for (int k = 0; k < many; k++) {
                    int other = heardAt(b, b.tail + k);
                    int least = Math.min(costs[k + 1] + out, nextCosts[k] + costOfOne(other));
                    if (isVowel(sound) == isVowel(other)) least = Math.min(least, costs[k] + costOfChange(sound, other));
                    nextCosts[k + 1] = least;
                }
                int[] spare = costs;
                costs = nextCosts;
                nextCosts = spare;
            }
            return costs[many];
        }

        private static int costOfOne(int sound) {
            return sound < VOWELS ? 8 : 5;
        }

        /** Of two vowels, or of two that are none. */
        private static int costOfChange(int sound, int other) {
            if (sound == other) return 0;
            return sound < VOWELS || sound % 5 == other % 5 ? 3 : 6;
        }

        boolean isBrokenRhyme(Word whole, Word u, Word v) {
            for (int a = 0; a < u.sayings.size(); a++) {
                for (int b = 0; b < v.sayings.size(); b++) {
                    for (int c = 0; c < whole.sayings.size(); c++) {
                        if (isTailOfBoth(whole.sayings.get(c), u.sayings.get(a), v.sayings.get(b))) return true;
                    }
                }
            }
            return false;
        }

        /** Whether the tail of a saying is like that of u and v, one behind the other. */
        private boolean isTailOfBoth(Saying whole, Saying u, Saying v) {
            if (v.topBehind >= u.top) return areAlikeFrom(whole, whole.tail, v, v.tailBehind);
            int ofU = u.size - u.tail;
            if (whole.size - whole.tail != ofU + v.size) return false;
            for (int k = 0; k < ofU; k++) {
                if (heardAt(whole, whole.tail + k) != heardAt(u, u.tail + k)) return false;
            }
            return areAlikeFrom(whole, whole.tail + ofU, v, 0);
        }
    }

    /** The meter, and a line that is laid on it word by word. */
    private static final class Scansion {
        int size;
        private final int[] marks;
        private boolean isAtStart;
        private Stage reached;
        private Stage merged;
        private Stage current;
        private Stage next;

        Scansion() {
            marks = new int[MOST_MARKS];
            size = 1;
            isAtStart = true;
            reached = new Stage();
            merged = new Stage();
            current = new Stage();
            next = new Stage();
        }

        void tellMarks(int n, int digits) {
            size = Math.max(1, Math.min(n, MOST_MARKS));
            int rest = digits;
            for (int m = 0; m < size; m++) {
                marks[m] = rest % MARK_KINDS;
                rest /= MARK_KINDS;
            }
        }

        void begin() {
            isAtStart = true;
            reached.empty();
            reached.take(Stage.ON_MARKS, 1, 0);
            if (marks[0] == WEAK) reached.take(Stage.ON_MARKS + 1, 1, Stage.HEADLESS_COST);
        }

        /** Goes on from what is reached by each saying of the word, and joins what they reach. */
        void layWord(Word word) {
            merged.empty();
            for (int k = 0; k < word.sayings.size(); k++) {
                Saying saying = word.sayings.get(k);
                current.becomes(reached);
                for (int s = 0; s < saying.syllables; s++) laySyllable(saying.stresses[s], isAtStart && s == 0);
                merged.takeAll(current);
            }
            Stage spare = reached;
            reached = merged;
            merged = spare;
            isAtStart = false;
        }

        int howMany() {
            return Math.min(reached.ways[Stage.ON_MARKS + size] + reached.ways[Stage.TAILED], MOST_LAYINGS);
        }

        int leastCost() {
            if (howMany() == 0) return NONE;
            return Math.min(reached.costs[Stage.ON_MARKS + size], reached.costs[Stage.TAILED]);
        }

        private void laySyllable(int stress, boolean isFirst) {
            next.empty();
            for (int m = 0; m <= size; m++) {
                int ways = current.ways[Stage.ON_MARKS + m];
                int cost = current.costs[Stage.ON_MARKS + m];
                if (m < size && agree(marks[m], stress)) next.take(Stage.ON_MARKS + m + 1, ways, cost);
                if (stress == 2 && canTurn(m)) next.take(Stage.TURNING + m + 2, ways, cost + Stage.TURNED_COST);
                if (stress != 0) continue;
                if (!isFirst) next.take(Stage.ON_MARKS + m, ways, cost + Stage.SLURRED_COST);
                if (m == size) next.take(Stage.TAILED, ways, cost + Stage.TAIL_COST);
                // the second syllable of a turned foot, whose cost is paid
                next.take(Stage.ON_MARKS + m, current.ways[Stage.TURNING + m], current.costs[Stage.TURNING + m]);
            }
            Stage spare = current;
            current = next;
            next = spare;
        }

        private boolean canTurn(int m) {
            return m + 1 < size && marks[m] == WEAK && marks[m + 1] == STRONG;
        }

        private static boolean agree(int mark, int stress) {
            if (mark == EITHER || stress == 1) return true;
            return mark == WEAK ? stress == 0 : stress == 2;
        }
    }

    /**
     * In how many ways, and how cheaply, each state is reached. ON_MARKS + m: m marks are used up;
     * TURNING + m: so too, but a turned foot waits for its weak syllable; TAILED: the tail is there, all is done.
     */
    private static final class Stage {
        static final int ON_MARKS = 0, TURNING = MOST_MARKS + 1, TAILED = 2 * (MOST_MARKS + 1), STATES = TAILED + 1;
        static final int TURNED_COST = 3, SLURRED_COST = 2, HEADLESS_COST = 4, TAIL_COST = 1;
        private static final int UNREACHED = 1000000;

        final int[] ways;
        final int[] costs;

        Stage() {
            ways = new int[STATES];
            costs = new int[STATES];
        }

        void empty() {
            for (int state = 0; state < STATES; state++) {
                ways[state] = 0;
                costs[state] = UNREACHED;
            }
        }

        void becomes(Stage other) {
            System.arraycopy(other.ways, 0, ways, 0, STATES);
            System.arraycopy(other.costs, 0, costs, 0, STATES);
        }

        void take(int state, int many, int cost) {
            if (many <= 0 || state < 0 || state >= STATES) return;
            int together = ways[state] + many;
            ways[state] = together > MOST_LAYINGS ? MOST_LAYINGS : together;
            if (cost < costs[state]) costs[state] = cost;
        }

        void takeAll(Stage other) {
            for (int state = 0; state < STATES; state++) take(state, other.ways[state], other.costs[state]);
        }
    }

    /** The form, its stanza, and the row in which a filling is tried. */
    private static final class Form {
        int size;
        int loose;
        final int[] letters;
        final int[] again;
        final int[] stanza;
        final int[] trial;

        Form() {
            letters = new int[MOST_PLACES];
            again = new int[MOST_PLACES];
            stanza = new int[MOST_PLACES];
            trial = new int[MOST_PLACES];
            size = 0;
            loose = 0;
        }

        void startAnew(int n) {
            size = Math.max(0, Math.min(n, MOST_PLACES));
            loose = 0;
            Arrays.fill(letters, 0);
            Arrays.fill(again, NONE);
            Arrays.fill(stanza, NONE);
        }

        boolean hasPlace(int i) {
            return i >= 0 && i < size;
        }

        int countEmpty() {
            int many = 0;
            for (int i = 0; i < size; i++) {
                if (stanza[i] == NONE) many++;
            }
            return many;
        }

        /** The line that a filling must put at a place, as it is told or must come again; NONE: any. */
        int givenAt(int i) {
            if (!hasPlace(i)) return NONE;
            if (stanza[i] != NONE || again[i] == NONE) return stanza[i];
            return trial[again[i]];
        }
    }
}
