import java.util.ArrayList;
import java.util.Arrays;
import java.util.HashMap;
import java.util.List;
import java.util.Map;

/** The document once more, word by word and without any care for speed, to ask the class against. */
final class PlainBench {
    static final int NONE = -1, BAD = -3, FULL = -5, SPENT = -6, NOTHING = -11, INDEX = -13, SIZE = -14;

    static final class W {
        int heap;
        List<int[]> sayings = new ArrayList<>();
        byte[] writing = null;
    }

    final List<W> words = new ArrayList<>();
    final List<int[]> lines = new ArrayList<>();
    final int[] speech = new int[40];
    int near = 10;
    int[] marks = {0};
    int places = 0;
    int[] letters = new int[0];
    int[] again = new int[0];
    int[] stanza = new int[0];
    int isLoose = 0;

    PlainBench() {
        for (int k = 0; k < 40; k++) speech[k] = k;
    }

    boolean noWord(int w) {
        return w < 0 || w >= words.size();
    }

    boolean noLine(int l) {
        return l < 0 || l >= lines.size();
    }

    int word(int heap) {
        if (heap < 0 || heap > 5) return BAD;
        if (words.size() == 24) return FULL;
        W w = new W();
        w.heap = heap;
        words.add(w);
        return words.size() - 1;
    }

    int saying(int word, int n, long first, long second) {
        if (noWord(word) || n < 1 || n > 12) return BAD;
        int[] row = new int[n];
        int vowels = 0;
        for (int k = 0; k < n; k++) {
            row[k] = (int) ((k < 8 ? first >> 8 * k : second >> 8 * (k - 8)) & 255);
            boolean isVowel = row[k] <= 9 || (row[k] >= 40 && row[k] <= 49) || (row[k] >= 80 && row[k] <= 89);
            boolean isOther = row[k] >= 10 && row[k] <= 39;
            if (!isVowel && !isOther) return BAD;
            if (isVowel) vowels++;
        }
        if (vowels == 0) return BAD;
        if (words.get(word).sayings.size() == 3) return FULL;
        words.get(word).sayings.add(row);
        return words.get(word).sayings.size() - 1;
    }

    int writing(int word, int n) {
        if (noWord(word) || n > 8) return BAD;
        if (n < 0) return SIZE;
        words.get(word).writing = new byte[n];
        return n;
    }

    int spell(int word, int place, int v) {
        if (noWord(word)) return BAD;
        byte[] writing = words.get(word).writing;
        if (writing == null) return NOTHING;
        if (place < 0 || place >= writing.length) return INDEX;
        if (v < -128 || v > 127) return BAD;
        int was = writing[place];
        writing[place] = (byte) v;
        return 1000 + was;
    }

    int copy(int from, int to, int place, int many) {
        if (noWord(from) || noWord(to)) return BAD;
        byte[] source = words.get(from).writing;
        byte[] target = words.get(to).writing;
        if (source == null || target == null) return NOTHING;
        if (many < 0 || place < 0 || many > source.length || (long) place + many > target.length) return INDEX;
        byte[] held = Arrays.copyOf(source, many);
        for (int k = 0; k < many; k++) target[place + k] = held[k];
        return many;
    }

    int speech(int sound, int said) {
        if (sound < 0 || sound > 39 || said < 0 || said > 39) return BAD;
        if ((sound <= 9) != (said <= 9)) return BAD;
        int was = speech[sound];
        speech[sound] = said;
        return was;
    }

    // a row of told bytes: its stress (-1: no vowel), its sound as it is heard
    static int stress(int told) {
        return told % 40 > 9 ? -1 : told / 40;
    }

    int heard(int told) {
        return speech[told % 40];
    }

    static int top(int[] row) {
        int top = 0;
        for (int told : row) top = Math.max(top, stress(told));
        return top;
    }

    static int tailAt(int[] row) {
        int k = row.length - 1;
        while (stress(row[k]) != top(row)) k--;
        return k;
    }

    List<Integer> tail(int[] row) {
        List<Integer> tail = new ArrayList<>();
        for (int k = tailAt(row); k < row.length; k++) tail.add(heard(row[k]));
        return tail;
    }

    int told(int word, int saying, int what) {
        if (noWord(word) || saying < 0 || saying >= words.get(word).sayings.size() || what < 0 || what > 15) return BAD;
        int[] row = words.get(word).sayings.get(saying);
        if (what == 0) return row.length;
        if (what == 1) return (int) Arrays.stream(row).filter(t -> stress(t) >= 0).count();
        if (what == 2) return tailAt(row);
        if (what == 3) return top(row);
        return what - 4 >= row.length ? INDEX : heard(row[what - 4]);
    }

    int near(int v) {
        if (v < 0 || v > 100) return BAD;
        int was = near;
        near = v;
        return was;
    }

    boolean rhyming(int[] a, int[] b, int kind) {
        boolean tails = tail(a).equals(tail(b));
        int aheadA = tailAt(a) == 0 ? -1 : heard(a[tailAt(a) - 1]);
        int aheadB = tailAt(b) == 0 ? -1 : heard(b[tailAt(b) - 1]);
        if (kind == 0) return tails && aheadA != aheadB;
        if (kind == 1) return tails && aheadA == aheadB;
        if (kind == 2) return onlyVowels(tail(a)).equals(onlyVowels(tail(b)));
        if (kind == 3) return !ending(a).isEmpty() && ending(a).equals(ending(b));
        if (kind == 4) return rowCost(tail(a), tail(b)) <= near;
        return tails;
    }

    static List<Integer> onlyVowels(List<Integer> row) {
        List<Integer> vowels = new ArrayList<>();
        for (int sound : row) if (sound < 10) vowels.add(sound);
        return vowels;
    }

    List<Integer> ending(int[] row) {
        List<Integer> ending = new ArrayList<>();
        for (int k = row.length - 1; stress(row[k]) < 0; k--) ending.add(0, heard(row[k]));
        return ending;
    }

    static int rowCost(List<Integer> a, List<Integer> b) {
        return rowCost(a, b, 0, 0, new Integer[a.size() + 1][b.size() + 1]);
    }

    private static int rowCost(List<Integer> a, List<Integer> b, int i, int j, Integer[][] known) {
        if (known[i][j] != null) return known[i][j];
        int least = i == a.size() && j == b.size() ? 0 : 1 << 20;
        if (i < a.size()) least = Math.min(least, (a.get(i) < 10 ? 8 : 5) + rowCost(a, b, i + 1, j, known));
        if (j < b.size()) least = Math.min(least, (b.get(j) < 10 ? 8 : 5) + rowCost(a, b, i, j + 1, known));
        if (i < a.size() && j < b.size()) {
            int x = a.get(i);
            int y = b.get(j);
            int rest = rowCost(a, b, i + 1, j + 1, known);
            if (x == y) least = Math.min(least, rest);
            else if (x < 10 && y < 10) least = Math.min(least, 3 + rest);
            else if (x >= 10 && y >= 10) least = Math.min(least, rest + (x % 5 == y % 5 ? 3 : 6));
        }
        known[i][j] = least;
        return least;
    }

    boolean eye(int w, int u) {
        byte[] a = words.get(w).writing;
        byte[] b = words.get(u).writing;
        if (a == null || b == null || a.length < 3 || b.length < 3) return false;
        return Arrays.equals(Arrays.copyOfRange(a, a.length - 3, a.length), Arrays.copyOfRange(b, b.length - 3, b.length));
    }

    int how(int w, int u, int kind) {
        if (noWord(w) || noWord(u) || kind < 0 || kind > 6) return BAD;
        if (w == u) return NONE;
        if (kind == 5) return eye(w, u) ? 0 : NONE;
        for (int a = 0; a < words.get(w).sayings.size(); a++) {
            for (int b = 0; b < words.get(u).sayings.size(); b++) {
                if (rhyming(words.get(w).sayings.get(a), words.get(u).sayings.get(b), kind)) return 3 * a + b;
            }
        }
        return NONE;
    }

    int rhyme(int w, int u, int kind) {
        int how = how(w, u, kind);
        return how == BAD ? BAD : how == NONE ? 0 : 1;
    }

    int cost(int w, int u) {
        if (noWord(w) || noWord(u)) return BAD;
        int least = NONE;
        for (int[] a : words.get(w).sayings) {
            for (int[] b : words.get(u).sayings) {
                int found = rowCost(tail(a), tail(b));
                if (least == NONE || found < least) least = found;
            }
        }
        return least;
    }

    int rhymes(int w, int kind, int i) {
        if (noWord(w) || kind < 0 || kind > 6 || i < 0) return BAD;
        List<Integer> found = new ArrayList<>();
        for (int u = 0; u < words.size(); u++) if (rhyme(w, u, kind) == 1) found.add(u);
        if (kind == 4) found.sort((a, b) -> cost(w, a) != cost(w, b) ? cost(w, a) - cost(w, b) : a - b);
        return i < found.size() ? found.get(i) : NONE;
    }

    int broken(int w, int i) {
        if (noWord(w) || i < 0) return BAD;
        List<Integer> found = new ArrayList<>();
        for (int u = 0; u < words.size(); u++) {
            for (int v = 0; v < words.size(); v++) if (isBroken(w, u, v)) found.add(24 * u + v);
        }
        return i < found.size() ? found.get(i) : NONE;
    }

    private boolean isBroken(int w, int u, int v) {
        for (int[] a : words.get(u).sayings) {
            for (int[] b : words.get(v).sayings) {
                int[] both = Arrays.copyOf(a, a.length + b.length);
                for (int k = 0; k < b.length; k++) both[a.length + k] = stress(b[k]) > 0 ? b[k] - 40 : b[k];
                for (int[] c : words.get(w).sayings) if (rhyming(both, c, 0) || rhyming(both, c, 1)) return true;
            }
        }
        return false;
    }

    int meter(int n, int digits) {
        if (n < 1 || n > 12 || digits < 0 || digits >= Math.round(Math.pow(3, n))) return BAD;
        marks = new int[n];
        for (int k = 0; k < n; k++) {
            marks[k] = digits % 3;
            digits /= 3;
        }
        return n;
    }

    int line(int n, long digits) {
        if (n < 1 || n > 8 || digits < 0) return BAD;
        int[] row = new int[n];
        for (int k = 0; k < n; k++) {
            row[k] = (int) (digits % 24);
            digits /= 24;
            if (noWord(row[k])) return BAD;
        }
        if (digits != 0) return BAD;
        if (lines.size() == 16) return FULL;
        lines.add(row);
        return lines.size() - 1;
    }

    int inLine(int line, int i) {
        if (noLine(line) || i < 0) return BAD;
        return i < lines.get(line).length ? lines.get(line)[i] : NONE;
    }

    /** {how many, the least cost} of a row of words: every choice of sayings, each laid by itself. */
    long[] lay(int[] row) {
        long[] all = {0, NONE};
        choose(row, 0, new ArrayList<>(), all);
        return all;
    }

    private void choose(int[] row, int k, List<Integer> stresses, long[] all) {
        if (k == row.length) {
            long[][][] known = new long[marks.length + 1][stresses.size() + 1][];
            long[] one = layFrom(0, 0, stresses, known);
            all[0] = Math.min(1000000, all[0] + one[0]);
            if (one[0] > 0 && (all[1] == NONE || one[1] < all[1])) all[1] = one[1];
            return;
        }
        for (int[] saying : words.get(row[k]).sayings) {
            List<Integer> more = new ArrayList<>(stresses);
            for (int told : saying) if (stress(told) >= 0) more.add(stress(told));
            choose(row, k + 1, more, all);
        }
    }

    private long[] layFrom(int m, int s, List<Integer> stresses, long[][][] known) {
        if (known[m][s] != null) return known[m][s];
        long[] found = {0, Integer.MAX_VALUE};
        int left = marks.length - m;
        int more = stresses.size() - s;
        if (left == 0 && more == 0) join(found, new long[] {1, 0}, 0);
        if (left > 0 && m == 0 && s == 0 && marks[0] == 0) join(found, layFrom(1, 0, stresses, known), 4);
        if (more > 0) {
            int stress = stresses.get(s);
            if (left > 0 && (marks[m] == 2 || stress == 1 || (marks[m] == 0 && stress == 0) || (marks[m] == 1 && stress == 2))) {
                join(found, layFrom(m + 1, s + 1, stresses, known), 0);
            }
            if (left > 1 && more > 1 && marks[m] == 0 && marks[m + 1] == 1 && stress == 2 && stresses.get(s + 1) == 0) {
                join(found, layFrom(m + 2, s + 2, stresses, known), 3);
            }
            if (stress == 0 && s > 0) join(found, layFrom(m, s + 1, stresses, known), 2);
            if (stress == 0 && left == 0 && more == 1) join(found, new long[] {1, 0}, 1);
        }
        known[m][s] = found;
        return found;
    }

    private static void join(long[] found, long[] more, int cost) {
        if (more[0] == 0) return;
        found[0] = Math.min(1000000, found[0] + more[0]);
        found[1] = Math.min(found[1], more[1] + cost);
    }

    int layings(int line) {
        return noLine(line) ? BAD : (int) lay(lines.get(line))[0];
    }

    int laid(int line) {
        return noLine(line) ? BAD : (int) lay(lines.get(line))[1];
    }

    int fill(int line, int placeHeap, int rhyme, int i) {
        if (noLine(line) || placeHeap < 0 || placeHeap / 6 >= lines.get(line).length) return BAD;
        if ((rhyme != NONE && noWord(rhyme)) || i < 0) return BAD;
        List<Integer> found = new ArrayList<>();
        for (int u = 0; u < words.size(); u++) {
            if (words.get(u).heap != placeHeap % 6) continue;
            int[] row = lines.get(line).clone();
            row[placeHeap / 6] = u;
            if (lay(row)[0] > 0 && (rhyme == NONE || rhyme(rhyme, u, 6) == 1)) found.add(u);
        }
        return i < found.size() ? found.get(i) : NONE;
    }

    int form(int n) {
        if (n < 0 || n > 14) return BAD;
        places = n;
        letters = new int[n];
        again = new int[n];
        stanza = new int[n];
        Arrays.fill(again, NONE);
        Arrays.fill(stanza, NONE);
        isLoose = 0;
        return n;
    }

    boolean noPlace(int i) {
        return i < 0 || i >= places;
    }

    int place(int i, int letter, int ahead) {
        if (noPlace(i) || letter < 0 || letter > 7 || ahead < NONE || ahead >= i) return BAD;
        letters[i] = letter;
        again[i] = ahead;
        return 0;
    }

    int loose(int on) {
        if (on < 0 || on > 1) return BAD;
        int was = isLoose;
        isLoose = on;
        return was;
    }

    int set(int i, int line) {
        if (noPlace(i) || (line != NONE && noLine(line))) return BAD;
        int was = stanza[i];
        stanza[i] = line;
        return was;
    }

    private boolean linesRhyme(int a, int b) {
        return a != b && rhymeKnown.computeIfAbsent(16 * a + b, pair -> lastWordsRhyme(a, b));
    }

    private boolean lastWordsRhyme(int a, int b) {
        int w = lines.get(a)[lines.get(a).length - 1];
        int u = lines.get(b)[lines.get(b).length - 1];
        if (rhyme(w, u, 6) == 1) return true;
        return isLoose == 1 && (rhyme(w, u, 2) == 1 || rhyme(w, u, 4) == 1);
    }

    // within one call only
    private final Map<Integer, Boolean> fits = new HashMap<>();
    private final Map<Integer, Boolean> rhymeKnown = new HashMap<>();

    int findingAt(int[] row, int i) {
        if (row[i] == NONE) return 1;
        if (again[i] != NONE && row[again[i]] != row[i]) return 2;
        if (again[i] == NONE) for (int k = 0; k < i; k++) if (row[k] == row[i]) return 3;
        if (!fits.computeIfAbsent(row[i], line -> lay(lines.get(line))[0] > 0)) return 4;
        for (int k = i - 1; k >= 0; k--) {
            if (letters[k] != letters[i] || row[k] == row[i]) continue;
            return linesRhyme(row[i], row[k]) ? 0 : 5;
        }
        return 0;
    }

    int check() {
        fits.clear();
        rhymeKnown.clear();
        for (int i = 0; i < places; i++) {
            int finding = findingAt(stanza, i);
            if (finding != 0) return 10 * i + finding;
        }
        return 0;
    }

    private int done;

    int complete(int tries) {
        if (tries < 1 || tries > 20000) return BAD;
        done = 0;
        fits.clear();
        rhymeKnown.clear();
        int[] row = stanza.clone();
        int answer = completeFrom(row, 0, tries);
        if (answer == 1) stanza = row;
        return answer;
    }

    private int completeFrom(int[] row, int i, int tries) {
        if (i == places) return 1;
        if (stanza[i] != NONE || again[i] != NONE) {
            if (stanza[i] == NONE) row[i] = row[again[i]];
            int answer = findingAt(row, i) == 0 ? completeFrom(row, i + 1, tries) : 0;
            if (answer == 0) row[i] = stanza[i];
            return answer;
        }
        for (int line = 0; line < lines.size(); line++) {
            if (++done > tries) return SPENT;
            row[i] = line;
            int answer = findingAt(row, i) == 0 ? completeFrom(row, i + 1, tries) : 0;
            if (answer != 0) return answer;
        }
        row[i] = NONE;
        return 0;
    }

    int stands(int i) {
        return noPlace(i) ? BAD : stanza[i];
    }

    int count(int what) {
        switch (what) {
            case 0: return words.size();
            case 1: return words.stream().mapToInt(w -> w.sayings.size()).sum();
            case 2: return lines.size();
            case 3: return marks.length;
            case 4: return places;
            case 5: return (int) Arrays.stream(stanza).filter(l -> l == NONE).count();
            case 6: return (int) words.stream().filter(w -> w.writing != null).count();
            default: return BAD;
        }
    }
}
