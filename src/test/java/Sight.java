import java.util.ArrayList;
import java.util.List;
import java.util.function.Supplier;

/**
 * All that can be seen of a bench, to tell whether a call has changed it. Looking changes a bench, and takes many calls:
 * each part is looked at on a bench of its own, made in the same way.
 */
final class Sight {
    private static final int NONE = -1, BAD = -3, NOTHING = -11, INDEX = -13;

    private final List<Integer> seen = new ArrayList<>();

    static List<Integer> of(Supplier<VerseBench> made) {
        Sight sight = new Sight();
        sight.ofWords(made.get());
        sight.ofSounds(made.get());
        sight.ofLines(made.get());
        sight.ofForm(made.get());
        return sight.seen;
    }

    private int see(int answer) {
        seen.add(answer);
        return answer;
    }

    private void ofWords(VerseBench x) {
        for (int what = 0; what <= 6; what++) see(x.count(what));
        for (int w = 0; w < x.count(0); w++) {
            for (int k = 0; k < 3 && see(x.told(w, k, 0)) != BAD; k++) {
                for (int what = 1; what < 16 && see(x.told(w, k, what)) != INDEX; what++) continue;
            }
            for (int place = 0; place < 8; place++) {
                int was = see(x.spell(w, place, 0));
                if (was == NOTHING || was == INDEX) break;
                x.spell(w, place, was - 1000);
            }
        }
    }

    private void ofSounds(VerseBench x) {
        for (int sound = 0; sound < 40; sound++) see(x.speech(sound, sound));
        see(x.near(10));
        see(x.loose(0));
    }

    private void ofLines(VerseBench x) {
        for (int line = 0; line < x.count(2); line++) {
            for (int i = 0; i < 8 && see(x.inLine(line, i)) != NONE; i++) continue;
            see(x.laid(line));
            see(x.layings(line));
        }
        for (int heap = 0; heap < 6; heap++) {
            for (int i = 0; i < 24 && see(x.fill(0, heap, NONE, i)) >= 0; i++) continue;
        }
    }

    /** Letters, and what must be again, are seen by what the check says to many a stanza. */
    private void ofForm(VerseBench x) {
        int places = see(x.count(4));
        for (int i = 0; i < places; i++) see(x.stands(i));
        see(x.check());
        see(x.complete(20000));
        for (int i = 0; i < places; i++) see(x.stands(i));
        int lines = Math.min(6, x.count(2));
        for (int step = 0; step < 3; step++) {
            for (int from = 0; from < lines; from++) {
                for (int i = 0; i < places; i++) x.set(i, (from + step * i) % lines);
                see(x.check());
            }
        }
    }
}
