import java.io.IOException;
import java.nio.file.Files;
import java.nio.file.Path;
import java.util.LinkedHashMap;
import java.util.LinkedHashSet;
import java.util.Map;
import java.util.Set;
import java.util.function.Consumer;
import java.util.regex.Matcher;
import java.util.regex.Pattern;

/** The sentences of the document from its terms to its last promise, and whether each has a test of its own. */
final class Sentences {
    /** What stands above the first title under the terms; it promises nothing. */
    private static final String INTRODUCTION = "Terms";
    private static final Pattern HEAD = Pattern.compile("(?s)(?:## Promise (\\d+).*|<h2>(.*?)</h2>\\s*(.*))");
    private static final Pattern SIGNATURE = Pattern.compile("^`.*?\\(.*?`: ");
    private static final Pattern NAMES_A_BOUNDARY = Pattern.compile("\\b(?:any number|counted from|0)\\b");

    private final Check check;
    private final Map<String, Set<String>> sentences = new LinkedHashMap<>();
    private final Map<String, Set<String>> due = new LinkedHashMap<>();
    private final Map<String, Set<String>> tested = new LinkedHashMap<>();

    Sentences(Path document, Check check) throws IOException {
        this.check = check;
        String text = Files.readString(document);
        String section = INTRODUCTION;
        for (String block : text.substring(text.indexOf("## Terms")).split("\n(?=## |<h2>|- |\n)")) {
            if (block.startsWith("## Not promised")) {
                break;
            }
            Matcher head = HEAD.matcher(block.strip());
            String body = block;
            if (head.matches()) {
                section = head.group(1) == null ? head.group(2) : head.group(1);
                body = head.group(1) == null ? head.group(3) : "";
            }
            if (!section.equals(INTRODUCTION)) {
                split(section, body.strip().replaceAll("\\s+", " "));
            }
        }
    }

    private void split(String section, String paragraph) {
        boolean isDue = !saysNothingNew(section, paragraph);
        for (String sentence : SIGNATURE.matcher(paragraph).replaceFirst("").split("(?<=[.;]) ")) {
            String bare = sentence.replaceFirst("[.;]$", "");
            if (!bare.isEmpty()) {
                put(sentences, section, bare);
            }
            if (!bare.isEmpty() && isDue) {
                put(due, section, bare);
            }
        }
    }

    /** A parameter's line, or an answer's line below a first sentence that tells the answer already. */
    private boolean saysNothingNew(String section, String paragraph) {
        if (NAMES_A_BOUNDARY.matcher(paragraph).find()) {
            return false;
        }
        Set<String> above = sentences.getOrDefault(section, Set.of());
        boolean answerIsTold = !above.isEmpty() && above.iterator().next().matches("(?:Returns|Checks) .*");
        return paragraph.startsWith("- `") || paragraph.startsWith("Returns ") && answerIsTold;
    }

    private static boolean put(Map<String, Set<String>> map, String section, String sentence) {
        return map.computeIfAbsent(section, key -> new LinkedHashSet<>()).add(sentence);
    }

    /** A section is the number of a promise or a title under the terms. */
    void test(String section, String sentence, Consumer<Check> test) {
        check.about(section + ": \"" + sentence + "\": ");
        check.holds("stands in the document", sentences.getOrDefault(section, Set.of()).contains(sentence));
        check.holds("has one test", put(tested, section, sentence));
        int before = check.done();
        check.returns("its test", () -> test.accept(check));
        check.holds("has checks", check.done() > before + 1);
        check.about("");
    }

    void requireAll() {
        for (String section : due.keySet()) {
            for (String sentence : due.get(section)) {
                boolean hasTest = tested.getOrDefault(section, Set.of()).contains(sentence);
                check.holds(section + ": a test of \"" + sentence + "\"", hasTest);
            }
        }
    }
}
