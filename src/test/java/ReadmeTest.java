import java.io.File;
import java.io.IOException;
import java.lang.reflect.Field;
import java.lang.reflect.Modifier;
import java.net.URL;
import java.net.URLClassLoader;
import java.nio.file.Files;
import java.nio.file.Path;
import java.util.ArrayList;
import java.util.List;
import java.util.regex.Matcher;
import java.util.regex.Pattern;
import java.util.stream.Stream;
import javax.tools.JavaCompiler;
import javax.tools.ToolProvider;

/** What README.md says: its examples answer as it tells, and what it names is there, all of it. */
public final class ReadmeTest {
    private static final Path PAGE = Path.of("README.md"), SOURCE = Path.of("src/main/java/VerseBench.java");
    private static final Path TESTS = Path.of("src/test/java");
    private static final Dues DUES = new Dues("ReadmeTest");

    private static final Pattern BLOCK = Pattern.compile("```java\n(.*?)```", Pattern.DOTALL);
    private static final Pattern MADE = Pattern.compile("VerseBench bench = new VerseBench\\(\\);");
    private static final Pattern CALL = Pattern.compile("(int \\w+ = )?(bench\\.\\w+\\(.*\\)); *// (-?\\d+)(: .*)?");
    private static final Pattern FACE = Pattern.compile("public int (\\w+\\([^)]*\\)) \\{");

    /** The examples are one run of calls: each line's answer stands behind it. */
    private static List<String> examples(String page) {
        List<String> lines = new ArrayList<>();
        Matcher block = BLOCK.matcher(page);
        while (block.find()) lines.addAll(List.of(block.group(1).split("\n")));
        return lines;
    }

    private static String asked(String line) {
        if (MADE.matcher(line).matches()) return line;
        Matcher call = CALL.matcher(line);
        DUES.holds("an example is a call, and tells its answer: " + line, call.matches());
        if (!call.matches()) return "";
        String keep = call.group(1) == null ? "" : call.group(1);
        String told = call.group(2).replace("\"", "\\\"");
        return keep + "answered(\"" + told + "\", " + call.group(3) + ", " + call.group(2) + ");";
    }

    private static String program(List<String> lines) {
        StringBuilder text = new StringBuilder("public final class ReadmeExamples implements Runnable {\n");
        text.append("    private static int answered(String call, int want, int got) {\n");
        text.append("        ReadmeTest.answered(call, want, got);\n        return got;\n    }\n");
        text.append("    public void run() {\n");
        for (String line : lines) text.append("        ").append(asked(line)).append("\n");
        return text.append("    }\n}\n").toString();
    }

    /** Asked by the program that is made of the examples. */
    public static void answered(String call, int want, int got) {
        DUES.due("README.md: " + call, want, got);
    }

    private static void theExamples(String page) throws IOException, ReflectiveOperationException {
        List<String> lines = examples(page);
        DUES.holds("there are examples", lines.size() > 1);
        Path place = Files.createTempDirectory("readme");
        Path file = place.resolve("ReadmeExamples.java");
        Files.writeString(file, program(lines));
        JavaCompiler compiler = ToolProvider.getSystemJavaCompiler();
        String classes = System.getProperty("java.class.path");
        int failed = compiler == null ? 1 : compiler.run(null, null, null, "-cp", classes, "-d", place.toString(), file.toString());
        DUES.due("the examples compile", 0, failed);
        if (failed == 0) run(place);
        remove(place);
    }

    private static void run(Path place) throws IOException, ReflectiveOperationException {
        try (URLClassLoader loader = new URLClassLoader(new URL[] {place.toUri().toURL()})) {
            ((Runnable) loader.loadClass("ReadmeExamples").getDeclaredConstructor().newInstance()).run();
        }
    }

    private static void remove(Path place) {
        File[] files = place.toFile().listFiles();
        for (File file : files == null ? new File[0] : files) DUES.holds("removed " + file, file.delete());
        DUES.holds("removed " + place, place.toFile().delete());
    }

    private static void theCalls(String page) throws IOException {
        Matcher face = FACE.matcher(Files.readString(SOURCE));
        int many = 0;
        while (face.find()) {
            many++;
            DUES.holds("README.md tells of " + face.group(1), page.contains("\n| `" + face.group(1) + "` |"));
        }
        DUES.due("calls of the face", 27, many);
        DUES.due("calls that README.md tells of", many, count(page, "\n\\| `\\w+\\([^)]*\\)` \\|"));
    }

    private static void theConstants(String page) throws IllegalAccessException {
        int many = 0;
        for (Field field : VerseBench.class.getFields()) {
            if (!Modifier.isStatic(field.getModifiers())) continue;
            many++;
            String row = "\n| `" + field.getName() + "` | " + field.getInt(null) + " |";
            DUES.holds("README.md tells that " + field.getName() + " is " + field.getInt(null), page.contains(row));
        }
        DUES.due("constants that README.md tells of", many, count(page, "\n\\| `[A-Z]+` \\|"));
    }

    private static int count(String page, String pattern) {
        return (int) Pattern.compile(pattern).matcher(page).results().count();
    }

    /** Each test is told of, and each that is told of is there. */
    private static void theTests(String page) throws IOException {
        try (Stream<Path> files = Files.list(TESTS)) {
            for (Path file : (Iterable<Path>) files::iterator) {
                String name = file.getFileName().toString().replace(".java", "");
                if (name.endsWith("Test")) DUES.holds("README.md tells of " + name, page.contains("\n- `" + name + "`: "));
            }
        }
        Matcher named = Pattern.compile("`((?:Edges|Sight|Plain)\\w*|\\w+Test)`").matcher(page);
        while (named.find()) DUES.holds("there is " + named.group(1), Files.exists(TESTS.resolve(named.group(1) + ".java")));
        Matcher paths = Pattern.compile("`((?:\\.\\./|src/|\\.ci/)[\\w./]*)`|\n    (\\.ci/\\w+)\n").matcher(page);
        while (paths.find()) {
            String path = paths.group(1) == null ? paths.group(2) : paths.group(1);
            DUES.holds("there is " + path, Files.exists(Path.of(path)));
        }
    }

    public static void main(String[] args) throws IOException, ReflectiveOperationException {
        String page = Files.readString(PAGE);
        theExamples(page);
        theCalls(page);
        theConstants(page);
        theTests(page);
        DUES.end();
    }
}
