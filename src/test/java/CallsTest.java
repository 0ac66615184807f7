import java.io.IOException;
import java.nio.file.Files;
import java.nio.file.Path;
import java.util.Map;
import java.util.Set;
import java.util.TreeMap;
import java.util.TreeSet;
import java.util.regex.Matcher;
import java.util.regex.Pattern;

/** Which methods of the class call which, as its source has it, and what LANGUAGE.md asks of that (rules 8 and 11). */
public final class CallsTest {
    private static final Path SOURCE = Path.of("src/main/java/UpAllRound.java");
    private static final Pattern HEAD =
        Pattern.compile("(?m)^( {4}| {8})(?:public|private) (static )?(?!class|final)\\w[\\w\\[\\]]* (\\w+)\\([^\n]*\\{$");
    private static final int DEEPEST = 8;

    private static final Due due = new Due();
    private static final Map<String, Set<String>> calls = new TreeMap<>();
    private static final Set<String> ofClasses = new TreeSet<>();

    public static void main(String[] args) throws IOException {
        String code = Files.readString(SOURCE).replaceAll("(?s)/\\*.*?\\*/", "").replaceAll("//[^\n]*", "");
        read(code);
        due.is("methods seen", calls.size() > 80 ? 1 : 0, 1);
        due.is("text calls the reader", calls.get("text").contains("reads") ? 1 : 0, 1);
        for (String method : calls.keySet()) {
            boolean itself = calls.get(method).contains(method) && !ofClasses.contains(method);
            due.is(method + " calls itself, and is not static", itself ? 1 : 0, 0);
            int deep = deep(method);
            due.is("calls open at once in " + method + ": " + deep, deep <= DEEPEST ? 1 : 0, 1);
        }
        due.end();
    }

    private static void read(String code) {
        Map<String, String> bodies = new TreeMap<>();
        Matcher head = HEAD.matcher(code);
        while (head.find()) {
            int end = code.indexOf("\n" + head.group(1) + "}", head.end());
            // Methods of one name in several classes are taken as one that calls what each of them calls.
            bodies.merge(head.group(3), code.substring(head.end(), end), String::concat);
            if (head.group(2) != null) {
                ofClasses.add(head.group(3));
            }
        }
        for (Map.Entry<String, String> body : bodies.entrySet()) {
            calls.put(body.getKey(), new TreeSet<>());
            Matcher m = Pattern.compile("\\b(\\w+)\\(").matcher(body.getValue());
            while (m.find()) {
                if (bodies.containsKey(m.group(1))) {
                    calls.get(body.getKey()).add(m.group(1));
                }
            }
        }
    }

    /** All that a method comes to call, through others, too. */
    private static Set<String> reach(String method) {
        Set<String> all = new TreeSet<>();
        Set<String> next = new TreeSet<>(calls.get(method));
        while (all.addAll(next)) {
            Set<String> further = new TreeSet<>();
            for (String called : next) {
                further.addAll(calls.get(called));
            }
            next = further;
        }
        return all;
    }

    /** How deep calls go from here, those of a recursion counted once. */
    private static int deep(String method) {
        Set<String> round = new TreeSet<>(Set.of(method));
        for (String called : reach(method)) {
            if (reach(called).contains(method)) {
                round.add(called);
            }
        }
        int most = 0;
        for (String of : round) {
            for (String called : calls.get(of)) {
                if (!round.contains(called)) {
                    most = Math.max(most, deep(called));
                }
            }
        }
        return 1 + most;
    }
}
