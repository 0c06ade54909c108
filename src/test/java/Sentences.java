import java.io.IOException;
import java.nio.file.Files;
import java.nio.file.Path;
import java.util.LinkedHashMap;
import java.util.LinkedHashSet;
import java.util.Map;
import java.util.Set;
import java.util.function.Consumer;
import java.util.regex.Matcher;
import java.util.regex.Pattern;

/** The sentences of the document from its first line to its last promise, and whether each has a test of its own. */
final class Sentences {
    /** The face stands in a block of code, which FaceTest compares with the class. */
    private static final Pattern FACE = Pattern.compile("(?s)## The public face\n.*?(?=## Terms\n)");
    private static final Pattern LESSER_TITLE = Pattern.compile("<h2>(.*?)</h2>\n");
    private static final Pattern TITLE = Pattern.compile("#+ (?:Promise (\\d+).*|(.*))");
    private static final Pattern SIGNATURE = Pattern.compile("^`.*?\\(.*?`: ");
    private static final Pattern NAMES_A_BOUNDARY = Pattern.compile("\\b(?:any number|counted from|0)\\b");
    private static final Set<String> PROMISE_NOTHING = Set.of("It is not thread-safe");

    private final Check check;
    private final Map<String, Set<String>> sentences = new LinkedHashMap<>();
    private final Map<String, Set<String>> due = new LinkedHashMap<>();
    private final Map<String, Set<String>> tested = new LinkedHashMap<>();

    Sentences(Path document, Check check) throws IOException {
        this.check = check;
        String text = FACE.matcher(Files.readString(document)).replaceFirst("");
        text = LESSER_TITLE.matcher(text).replaceAll("## $1\n\n");
        String section = "";
        for (String block : text.substring(0, text.indexOf("## Not promised")).split("\n(?=#+ |- |\n)")) {
            String paragraph = block.strip().replaceAll("\\s+", " ");
            Matcher title = TITLE.matcher(paragraph);
            if (title.matches()) {
                section = title.group(1) == null ? title.group(2) : title.group(1);
            } else {
                split(section, paragraph);
            }
        }
    }

    private void split(String section, String paragraph) {
        boolean isDue = !saysNothingNew(section, paragraph);
        for (String sentence : SIGNATURE.matcher(paragraph).replaceFirst("").split("(?<=[.;]) ")) {
            String bare = sentence.replaceFirst("[.;]$", "");
            if (!bare.isEmpty()) {
                put(sentences, section, bare);
            }
            if (!bare.isEmpty() && isDue && !PROMISE_NOTHING.contains(bare)) {
                put(due, section, bare);
            }
        }
    }

    /** A parameter's line, or an answer's line below a first sentence that tells the answer already. */
    private boolean saysNothingNew(String section, String paragraph) {
        if (NAMES_A_BOUNDARY.matcher(paragraph).find()) {
            return false;
        }
        Set<String> above = sentences.getOrDefault(section, Set.of());
        boolean answerIsTold = !above.isEmpty() && above.iterator().next().matches("(?:Returns|Checks) .*");
        return paragraph.startsWith("- `") || paragraph.startsWith("Returns ") && answerIsTold;
    }

    private static boolean put(Map<String, Set<String>> map, String section, String sentence) {
        return map.computeIfAbsent(section, key -> new LinkedHashSet<>()).add(sentence);
    }

    /** A section is the number of a promise or a title under the terms. */
    void test(String section, String sentence, Consumer<Check> test) {
        check.about(section + ": \"" + sentence + "\": ");
        check.holds("stands in the document", sentences.getOrDefault(section, Set.of()).contains(sentence));
        check.holds("has one test", put(tested, section, sentence));
        int before = check.done();
        check.returns("its test", () -> test.accept(check));
        check.holds("has checks", check.done() > before + 1);
        check.about("");
    }

    void requireAll() {
        for (String section : due.keySet()) {
            for (String sentence : due.get(section)) {
                boolean hasTest = tested.getOrDefault(section, Set.of()).contains(sentence);
                check.holds(section + ": a test of \"" + sentence + "\"", hasTest);
            }
        }
    }
}
