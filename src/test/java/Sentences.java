import java.io.IOException;
import java.nio.file.Files;
import java.nio.file.Path;
import java.util.LinkedHashMap;
import java.util.Map;
import java.util.function.Supplier;
import java.util.function.ToIntFunction;
import java.util.regex.Matcher;
import java.util.regex.Pattern;

/**
 * The document's sentences, each with a test of its own. A test begins with the sentence, in the document's words, and
 * with the promise that it is of; what is asked then is asked for that sentence. At the end no sentence of the document
 * may be left without a test, and no test without a sentence.
 */
final class Sentences {
    private static final Path DOCUMENT = Path.of("../shared/DOC.md");
    private static final String OUTSET = "What it is", TERMS = "Terms", PROMISE = "Promise ";

    private final Dues dues = new Dues("EdgesTest");
    private final Map<String, String> sections = new LinkedHashMap<>();
    private final Map<String, boolean[]> covered = new LinkedHashMap<>();
    private String test = "";
    private int asked = 1;
    private int tests = 0;

    Sentences() throws IOException {
        if (!Files.exists(DOCUMENT)) {
            System.out.println("EdgesTest: no " + DOCUMENT + " to look for the sentences in; they are tested none the less");
            return;
        }
        String current = "";
        for (String line : Files.readAllLines(DOCUMENT)) {
            Matcher heading = Pattern.compile("## (Promise \\d+|[^:]*).*").matcher(line);
            Matcher part = Pattern.compile("======== (\\d) (.*)").matcher(line);
            if (heading.matches()) current = heading.group(1);
            if (part.matches()) current = TERMS + " " + part.group(1);
            String text = part.matches() ? part.group(2) : heading.matches() || line.startsWith("```") ? "" : line;
            sections.merge(current, text.trim(), (all, more) -> (all + " " + more).trim());
        }
        sections.keySet().removeIf(name -> !name.equals(OUTSET) && !name.startsWith(TERMS) && !name.startsWith(PROMISE));
        sections.replaceAll((name, text) -> text.replaceFirst("^`[^`]*`: ", ""));
        sections.forEach((name, text) -> covered.put(name, new boolean[text.length()]));
    }

    /** A sentence of a promise. */
    void promise(int number, String words) {
        begin("promise " + number, PROMISE + number, words);
    }

    /** A sentence of the Terms, in one of their parts (0: ahead of them all), with the promises where it counts. */
    void term(int part, String words, int... promises) {
        StringBuilder label = new StringBuilder(promises.length == 1 ? "promise" : "promises");
        for (int k = 0; k < promises.length; k++) label.append(k == 0 ? " " : ", ").append(promises[k]);
        begin(label.toString(), part == 0 ? TERMS : TERMS + " " + part, words);
    }

    /** A sentence about the object as a whole. */
    void outset(String words) {
        begin("promise 1", OUTSET, words);
    }

    /** What the document says there names nothing that a call could answer. */
    void nothingToAsk(int part, String words) {
        cover(part < 0 ? OUTSET : part == 0 ? TERMS : TERMS + " " + part, words);
    }

    void due(String call, int want, int got) {
        asked++;
        dues.due(test + ": " + call, want, got);
    }

    /** A call that is refused, with its answer, on a bench that is then as it was. */
    void refused(String call, int want, Supplier<VerseBench> made, ToIntFunction<VerseBench> asking) {
        due(call, want, asking.applyAsInt(made.get()));
        Supplier<VerseBench> after = () -> {
            VerseBench x = made.get();
            asking.applyAsInt(x);
            return x;
        };
        due(call + " changes nothing", 1, Sight.of(made).equals(Sight.of(after)) ? 1 : 0);
    }

    void end() {
        begin("the end", "", "");
        covered.forEach(this::lookForGaps);
        System.out.println("EdgesTest: " + (tests - 1) + " sentences");
        dues.end();
    }

    private void begin(String label, String section, String words) {
        dues.holds(test + ": something is asked", asked > 0);
        if (!words.isEmpty()) cover(section, words);
        test = label + ", \"" + words + "\"";
        asked = 0;
        tests++;
    }

    private void cover(String section, String words) {
        if (sections.isEmpty()) return;
        String text = sections.getOrDefault(section, "");
        int at = text.indexOf(words);
        dues.holds(section + " says \"" + words + "\"", at >= 0);
        for (int k = 0; at >= 0 && k < words.length(); k++) covered.get(section)[at + k] = true;
    }

    private void lookForGaps(String section, boolean[] signs) {
        StringBuilder gap = new StringBuilder();
        for (int k = 0; k < signs.length; k++) {
            char sign = sections.get(section).charAt(k);
            gap.append(signs[k] ? ' ' : sign);
        }
        String left = gap.toString().replaceAll("[\\s.,;:()]+", " ").trim();
        dues.holds(section + ", without a test: \"" + left + "\"", left.isEmpty());
    }
}
