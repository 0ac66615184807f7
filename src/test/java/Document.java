import java.io.IOException;
import java.nio.file.Files;
import java.nio.file.Path;
import java.util.ArrayList;
import java.util.LinkedHashMap;
import java.util.List;
import java.util.Map;
import java.util.TreeSet;
import java.util.regex.Matcher;
import java.util.regex.Pattern;

/** The document's sentences, by the part in which they stand: "promise 1" to "promise 40", "terms 0" to "terms 4". */
final class Document {
    private static final Path PLACE = Path.of("../shared/DOC.md");
    private static final Pattern SENTENCE_END = Pattern.compile("(?<=[A-Za-z0-9)}]\\.) ");
    private static final Pattern PROMISE = Pattern.compile("## Promise (\\d+): [^\n]*\n+`[^`\n]*`: ([^\n]*)\n");

    private final Map<String, List<String>> parts = new LinkedHashMap<>();
    private final TreeSet<String> named = new TreeSet<>();

    Document() throws IOException {
        String whole = Files.readString(PLACE).replace("```text", "").replace("```", "");
        String terms = whole.substring(whole.indexOf("## Terms") + 8, whole.indexOf("\nAhead of the calls"));
        int part = 0;
        for (String text : terms.split("\n(?=[1-4]\\. [A-Z(])")) {
            put("terms " + part, text.replaceFirst("^[1-4]\\. ", ""));
            part++;
        }
        Matcher m = PROMISE.matcher(whole);
        while (m.find()) {
            put("promise " + m.group(1), m.group(2));
        }
    }

    private void put(String part, String text) {
        List<String> sentences = new ArrayList<>();
        for (String sentence : SENTENCE_END.split(text.replaceAll("\\s+", " ").trim())) {
            sentences.add(sentence);
        }
        parts.put(part, sentences);
    }

    int parts() {
        return parts.size();
    }

    /** How many sentences of a part hold these words; what holds them is named from here on. */
    int name(String part, String words) {
        int holding = 0;
        for (String sentence : parts.getOrDefault(part, List.of())) {
            if (sentence.contains(words)) {
                named.add(part + ": " + sentence);
                holding++;
            }
        }
        return holding;
    }

    List<String> notNamed() {
        List<String> rest = new ArrayList<>();
        for (Map.Entry<String, List<String>> part : parts.entrySet()) {
            for (String sentence : part.getValue()) {
                if (!named.contains(part.getKey() + ": " + sentence)) {
                    rest.add(part.getKey() + ": " + sentence);
                }
            }
        }
        return rest;
    }
}
