import java.io.IOException;
import java.lang.reflect.Constructor;
import java.lang.reflect.Field;
import java.lang.reflect.Method;
import java.lang.reflect.Modifier;
import java.nio.file.Files;
import java.nio.file.Path;
import java.util.ArrayList;
import java.util.List;
import java.util.Map;
import java.util.Set;
import java.util.TreeMap;
import java.util.TreeSet;
import java.util.regex.Matcher;
import java.util.regex.Pattern;

/** The public face as the document gives it, and what LANGUAGE.md forbids as far as it can be seen. */
public final class FaceTest {
    private static final Path DOCUMENT = Path.of("../shared/DOC.md");
    private static final Path SOURCE = Path.of("src/main/java/UpAllRound.java");
    private static final int LONGEST_METHOD = 60;
    private static final int MOST_CLASSES = 12;
    private static final int MOST_FIELDS = 20;
    private static final Set<Class<?>> STILL =
        Set.of(int.class, long.class, boolean.class, char.class, String.class, int[].class, long[].class, char[].class, byte[].class);

    private static final Due due = new Due();

    public static void main(String[] args) throws IOException {
        Map<String, String> face = documentFace();
        due.is("methods of the document", face.size(), 39);
        due.is("own face is the document's", ownFace().equals(face) ? 1 : 0, 1);
        members();
        for (Class<?> inside : UpAllRound.class.getDeclaredClasses()) {
            inside(inside, face);
        }
        source(Files.readString(SOURCE));
        due.end();
    }

    private static Map<String, String> documentFace() throws IOException {
        Map<String, String> face = new TreeMap<>();
        Matcher m = Pattern.compile("    public (int|long) (\\w+)\\(([^)]*)\\);").matcher(Files.readString(DOCUMENT));
        while (m.find()) {
            face.put(m.group(2), m.group(1) + " (" + m.group(3).replaceAll(" \\w+(,|$)", "$1") + ")");
        }
        return face;
    }

    private static Map<String, String> ownFace() {
        Map<String, String> face = new TreeMap<>();
        for (Method m : UpAllRound.class.getDeclaredMethods()) {
            if (!Modifier.isPrivate(m.getModifiers())) {
                List<String> types = new ArrayList<>();
                for (Class<?> type : m.getParameterTypes()) {
                    types.add(type.getSimpleName());
                }
                String was = face.put(m.getName(), m.getReturnType() + " (" + String.join(", ", types) + ")");
                due.is(m.getName() + " stands once", was == null ? 1 : 0, 1);
                due.is(m.getName() + " is public alone", m.getModifiers(), Modifier.PUBLIC);
            }
        }
        return face;
    }

    private static void members() {
        due.is("the class", UpAllRound.class.getModifiers(), Modifier.PUBLIC | Modifier.FINAL);
        Constructor<?>[] all = UpAllRound.class.getDeclaredConstructors();
        due.are("constructors", all.length, 1, all[0].getParameterCount(), 0, all[0].getModifiers(), Modifier.PUBLIC);
        due.is("few classes inside", UpAllRound.class.getDeclaredClasses().length <= MOST_CLASSES ? 1 : 0, 1);
        fields(UpAllRound.class);
        for (Method m : UpAllRound.class.getDeclaredMethods()) {
            due.is(m.getName() + " of few parameters", m.getParameterCount() <= 7 ? 1 : 0, 1);
        }
    }

    private static void inside(Class<?> inside, Map<String, String> face) {
        String name = inside.getSimpleName();
        due.is(name + " is static", Modifier.isStatic(inside.getModifiers()) ? 1 : 0, 1);
        due.is(name + " is not public", inside.getModifiers() & (Modifier.PUBLIC | Modifier.PROTECTED), 0);
        fields(inside);
        for (Method m : inside.getDeclaredMethods()) {
            due.is(name + "." + m.getName() + " has no public one's name", face.containsKey(m.getName()) ? 1 : 0, 0);
            due.is(name + "." + m.getName() + " of few parameters", m.getParameterCount() <= 7 ? 1 : 0, 1);
        }
    }

    private static void fields(Class<?> of) {
        int fields = 0;
        for (Field f : of.getDeclaredFields()) {
            String name = of.getSimpleName() + "." + f.getName();
            due.is(name + " is private", Modifier.isPrivate(f.getModifiers()) ? 1 : 0, 1);
            if (Modifier.isStatic(f.getModifiers())) {
                boolean still = Modifier.isFinal(f.getModifiers()) && STILL.contains(f.getType());
                due.is(name + " is a constant", still ? 1 : 0, 1);
            } else {
                fields++;
            }
        }
        due.is(of.getSimpleName() + " has few fields", fields <= MOST_FIELDS ? 1 : 0, 1);
    }

    /** What is called of the library stands on the list of rule 4. */
    private static void library(String code) {
        Set<String> listed = Set.of("System.arraycopy", "Arrays.fill", "Math.min", "Math.max", "Math.floorMod", "Integer.compare");
        Matcher m = Pattern.compile("\\b([A-Z]\\w*\\.\\w+)\\(").matcher(code);
        while (m.find()) {
            due.is(m.group(1) + " is listed", listed.contains(m.group(1)) ? 1 : 0, 1);
        }
    }

    private static void source(String whole) {
        String code = whole.replaceAll("(?s)/\\*.*?\\*/", "").replaceAll("//[^\n]*", "")
            .replaceAll("'[^']'", "0").replaceAll("\"[^\"]*\"", "text");
        String[] forbidden = {"throw", "throws", "try", "catch", "finally", "synchronized", "assert", "package", "native",
            "volatile", "transient", "Exact\\b\\w*", "System\\.(?!arraycopy)", "Thread", "Random", "Object", "lambda",
            "->", "::", "equals", "hashCode", "toString", "instanceof", "float", "double"};
        for (String word : forbidden) {
            Matcher m = Pattern.compile(word.matches("\\w+") ? "\\b" + word + "\\b" : word).matcher(code);
            due.is("the source has " + word, m.find() ? 1 : 0, 0);
        }
        due.is("it imports", count(code, "(?m)^import java\\.util\\.Arrays;$"), count(code, "\\bimport\\b"));
        due.is("what is made is made with the object", count(code, "\\bnew\\b"),
            count(code, "(?m)^ +private final [\\w\\[\\]]+ \\w+ = new [^;]+;$"));
        due.is("no call has no end", count(code, "while \\(true|for \\(;;"), 0);
        library(code);
        methods(whole);
    }

    private static int count(String code, String pattern) {
        int found = 0;
        Matcher m = Pattern.compile(pattern).matcher(code);
        while (m.find()) {
            found++;
        }
        return found;
    }

    private static void methods(String whole) {
        String[] lines = whole.split("\n");
        TreeSet<String> names = new TreeSet<>();
        for (int i = 0; i < lines.length; i++) {
            Matcher m = Pattern.compile("( {4}| {8})(public|private) (static )?\\w[\\w\\[\\]]* (\\w+)\\(.*\\{").matcher(lines[i]);
            if (m.matches()) {
                names.add(m.group(4));
                int end = i;
                while (!lines[end].equals(m.group(1) + "}")) {
                    end++;
                }
                due.is(m.group(4) + " is short", end - i <= LONGEST_METHOD ? 1 : 0, 1);
            }
        }
        due.is("methods seen", names.size() > 80 ? 1 : 0, 1);
    }
}
