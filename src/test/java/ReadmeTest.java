import java.io.ByteArrayOutputStream;
import java.io.IOException;
import java.io.PrintStream;
import java.lang.reflect.Method;
import java.lang.reflect.Modifier;
import java.net.URL;
import java.net.URLClassLoader;
import java.nio.file.Files;
import java.nio.file.Path;
import java.util.ArrayList;
import java.util.List;
import java.util.regex.Matcher;
import java.util.regex.Pattern;
import javax.tools.JavaCompiler;
import javax.tools.ToolProvider;

/** What README.md shows: its program prints what stands there, its calls answer what stands behind them. */
public final class ReadmeTest {
    private static final Path README = Path.of("README.md");
    private static final Path OUT = Path.of("build/readme");
    private static final Pattern BLOCK = Pattern.compile("(?s)```(\\w+)\n(.*?)```");
    private static final Pattern CALL = Pattern.compile("(int \\w+ = )?(x\\.\\w+\\(.*\\)); +// (-?\\d+): \\S.*");
    private static final String MADE = "UpAllRound x = new UpAllRound();";

    private static final Due due = new Due();

    public static void main(String[] args) throws IOException, ReflectiveOperationException {
        String readme = Files.readString(README);
        List<String> programs = new ArrayList<>();
        List<String> printed = new ArrayList<>();
        List<String> tours = new ArrayList<>();
        Matcher block = BLOCK.matcher(readme);
        while (block.find()) {
            if (block.group(1).equals("text")) {
                printed.add(block.group(2));
            } else if (block.group(1).equals("java")) {
                (block.group(2).startsWith(MADE) ? tours : programs).add(block.group(2));
            }
        }
        due.are("programs, and what they print", programs.size(), 1, printed.size(), 1);
        due.is("the program prints what stands there", prints(programs.get(0)).equals(printed.get(0)) ? 1 : 0, 1);
        calls(tours);
        everyMethod(String.join("", tours));
        errors(readme);
        due.end();
    }

    private static String prints(String program) throws IOException, ReflectiveOperationException {
        Matcher name = Pattern.compile("public final class (\\w+) ").matcher(program);
        due.is("the program's name", name.find() ? 1 : 0, 1);
        Method main = compiled(name.group(1), program).getMethod("main", String[].class);
        PrintStream before = System.out;
        ByteArrayOutputStream out = new ByteArrayOutputStream();
        System.setOut(new PrintStream(out, true));
        try {
            main.invoke(null, (Object) new String[0]);
        } finally {
            System.setOut(before);
        }
        return out.toString().replace("\r\n", "\n");
    }

    /** All calls become one method, which hands out the answers in their order. */
    private static void calls(List<String> tours) throws IOException, ReflectiveOperationException {
        List<String> shown = new ArrayList<>();
        List<Long> dues = new ArrayList<>();
        StringBuilder body = new StringBuilder();
        for (String tour : tours) {
            body.append("{\n");
            for (String line : tour.split("\n")) {
                Matcher m = CALL.matcher(line);
                if (m.matches()) {
                    body.append(m.group(1) == null ? "" : m.group(1)).append("a[").append(shown.size()).append("] = ");
                    body.append(m.group(2)).append(";\n");
                    shown.add(m.group(2));
                    dues.add(Long.parseLong(m.group(3)));
                } else {
                    due.is("a line with its answer, or a new object: " + line, line.equals(MADE) ? 1 : 0, 1);
                    body.append(MADE).append("\n");
                }
            }
            body.append("}\n");
        }
        String source = "public final class ReadmeCalls { public static int[] answers() { int[] a = new int["
            + shown.size() + "];\n" + body + "return a; } }\n";
        int[] answers = (int[]) compiled("ReadmeCalls", source).getMethod("answers").invoke(null);
        for (int i = 0; i < answers.length; i++) {
            due.is(shown.get(i), answers[i], dues.get(i));
        }
    }

    private static Class<?> compiled(String name, String source) throws IOException, ReflectiveOperationException {
        Files.createDirectories(OUT);
        Path file = OUT.resolve(name + ".java");
        Files.writeString(file, source);
        JavaCompiler javac = ToolProvider.getSystemJavaCompiler();
        int wrong = javac.run(null, null, null, "-cp", System.getProperty("java.class.path"), "-d", OUT.toString(), file.toString());
        due.is(name + " is compiled", wrong, 0);
        return new URLClassLoader(new URL[] {OUT.toUri().toURL()}).loadClass(name);
    }

    private static void everyMethod(String tours) {
        for (Method m : UpAllRound.class.getDeclaredMethods()) {
            if (Modifier.isPublic(m.getModifiers())) {
                due.is("a call of " + m.getName(), tours.contains("x." + m.getName() + "(") ? 1 : 0, 1);
            }
        }
    }

    /** The rows of the table of errors, and calls that answer each. */
    private static void errors(String readme) {
        UpAllRound x = new UpAllRound();
        int[] answers = {x.build(3), x.restore(), Make.with(0, 0).build(8), Make.with(0, 0, 0, 0, 0, 0, 0, 0, 0, 0, 0, 0).climber(0, 0),
            Make.with(0, 0).as(0, 1), Make.with(0, 0).voice(0, 3, 7)};
        for (int k = 1; k <= answers.length; k++) {
            due.is("error " + k, answers[k - 1], -1000000000 - k);
            due.is("row of error " + k, readme.contains("\n| " + answers[k - 1] + " | " + k + " | ") ? 1 : 0, 1);
        }
    }
}
