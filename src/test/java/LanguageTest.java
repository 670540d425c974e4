import java.io.IOException;
import java.lang.reflect.Constructor;
import java.lang.reflect.Field;
import java.lang.reflect.Method;
import java.lang.reflect.Modifier;
import java.nio.file.Files;
import java.nio.file.Path;
import java.util.Arrays;
import java.util.Set;
import java.util.TreeSet;
import java.util.regex.Matcher;
import java.util.regex.Pattern;

/** What can be seen of LANGUAGE.md's rules from outside: the face, and words that the source must not have. */
public final class LanguageTest {
    private static final Path SOURCE = Path.of("src/main/java/VerseBench.java");
    private static final String[] FACE = {
        "int word(int)", "int saying(int,int,long,long)", "int writing(int,int)", "int spell(int,int,int)",
        "int copy(int,int,int,int)", "int speech(int,int)", "int told(int,int,int)", "int near(int)",
        "int rhyme(int,int,int)", "int how(int,int,int)", "int cost(int,int)", "int rhymes(int,int,int)",
        "int broken(int,int)", "int meter(int,int)", "int line(int,long)", "int inLine(int,int)", "int layings(int)",
        "int laid(int)", "int fill(int,int,int,int)", "int form(int)", "int place(int,int,int)", "int loose(int)",
        "int set(int,int)", "int check()", "int complete(int)", "int stands(int)", "int count(int)"};
    private static final String[] CONSTANTS = {"NONE", "BAD", "NO", "FULL", "SPENT", "NOTHING", "INDEX", "SIZE"};
    private static final Dues DUES = new Dues("LanguageTest");

    private static String signature(Method method) {
        StringBuilder text = new StringBuilder(method.getReturnType() + " " + method.getName() + "(");
        String between = "";
        for (Class<?> type : method.getParameterTypes()) {
            text.append(between).append(type);
            between = ",";
        }
        return text.append(")").toString();
    }

    private static void theFace() {
        Set<String> seen = new TreeSet<>();
        Set<String> names = new TreeSet<>();
        for (Method method : VerseBench.class.getDeclaredMethods()) {
            int flags = method.getModifiers();
            if (method.isSynthetic()) continue;
            if (Modifier.isPublic(flags)) {
                seen.add(signature(method));
                names.add(method.getName());
                DUES.holds("rule 1: not static: " + method, !Modifier.isStatic(flags));
            } else {
                DUES.holds("rule 1: private: " + method, Modifier.isPrivate(flags));
            }
        }
        DUES.holds("rule 1: the methods of the face, not " + seen, seen.equals(new TreeSet<>(Arrays.asList(FACE))));
        Set<String> constants = new TreeSet<>();
        for (Field field : VerseBench.class.getDeclaredFields()) {
            if (Modifier.isPublic(field.getModifiers())) constants.add(field.getName());
            else DUES.holds("rule 1: private: " + field, Modifier.isPrivate(field.getModifiers()));
        }
        DUES.holds("rule 1: the constants of the face, not " + constants, constants.equals(new TreeSet<>(Arrays.asList(CONSTANTS))));
        Constructor<?>[] made = VerseBench.class.getDeclaredConstructors();
        DUES.holds("rule 1: one constructor", made.length == 1 && Modifier.isPublic(made[0].getModifiers()));
        DUES.holds("rule 1: final", Modifier.isFinal(VerseBench.class.getModifiers()));
        classesInside(names);
    }

    private static void classesInside(Set<String> publicNames) {
        Class<?>[] inside = VerseBench.class.getDeclaredClasses();
        DUES.holds("rule 11: at most twelve classes", inside.length < 12);
        eachClass(VerseBench.class, publicNames);
        for (Class<?> one : inside) {
            int flags = one.getModifiers();
            DUES.holds("rule 1: static and not public: " + one, Modifier.isStatic(flags) && !Modifier.isPublic(flags));
            eachClass(one, publicNames);
        }
    }

    private static void eachClass(Class<?> one, Set<String> publicNames) {
        int fields = 0;
        for (Field field : one.getDeclaredFields()) {
            boolean isStatic = Modifier.isStatic(field.getModifiers());
            if (isStatic) DUES.holds("rule 5: final: " + field, Modifier.isFinal(field.getModifiers()));
            else fields++;
        }
        DUES.holds("rule 11: at most twenty fields: " + one, fields <= 20);
        for (Method method : one.getDeclaredMethods()) {
            DUES.holds("rule 2: no lambda: " + method, !method.isSynthetic());
            DUES.holds("rule 11: at most seven parameters: " + method, method.getParameterCount() <= 7);
            boolean isHidden = one != VerseBench.class || Modifier.isPrivate(method.getModifiers());
            if (isHidden) DUES.holds("rule 1: the name of a public one: " + method, !publicNames.contains(method.getName()));
        }
    }

    private static String withoutComments(String source) {
        return source.replaceAll("(?s)/\\*.*?\\*/", " ").replaceAll("//[^\n]*", " ");
    }

    private static void theSource(String source) {
        String code = withoutComments(source);
        DUES.holds("signs below 128", source.chars().allMatch(sign -> sign < 128));
        String[] words = {"throw", "throws", "try", "catch", "finally", "synchronized", "assert", "package", "native",
            "volatile", "transient", "Object", "Thread", "hashCode", "Iterator", "Map", "Set", "Random", "main", "print", "println"};
        for (String word : words) {
            DUES.holds("no word " + word, !Pattern.compile("\\b" + word + "\\b").matcher(code).find());
        }
        for (String sign : new String[] {"->", "::", "@", "\"", "Exact(", "static {", "new Runnable"}) {
            DUES.holds("no sign " + sign, !code.contains(sign));
        }
        Matcher imports = Pattern.compile("import ([^;]*);").matcher(code);
        while (imports.find()) {
            DUES.holds("rule 4: import " + imports.group(1), Set.of("java.util.ArrayList", "java.util.Arrays", "java.util.List").contains(imports.group(1)));
        }
        Matcher library = Pattern.compile("\\b(Arrays|System|Math|Integer|Long)\\.(\\w+)").matcher(code);
        Set<String> fine = Set.of("Arrays.fill", "System.arraycopy", "Math.max", "Math.min");
        while (library.find()) DUES.holds("rule 4: " + library.group(), fine.contains(library.group()));
    }

    private static void theLengths(String source) {
        int begun = -1;
        String[] lines = source.split("\n");
        for (int k = 0; k < lines.length; k++) {
            if (lines[k].matches("(    |        )[\\w<>\\[\\] ]+\\(.*\\) \\{")) begun = k;
            if (lines[k].matches("(    |        )}") && begun >= 0) {
                DUES.holds("rule 11: some sixty lines, from line " + (begun + 1), k - begun < 60);
                begun = -1;
            }
        }
    }

    public static void main(String[] args) throws IOException {
        String source = Files.readString(SOURCE);
        theFace();
        theSource(source);
        theLengths(source);
        DUES.end();
    }
}
