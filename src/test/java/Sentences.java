import java.io.IOException;
import java.nio.file.Files;
import java.nio.file.Path;
import java.util.ArrayList;
import java.util.LinkedHashMap;
import java.util.List;
import java.util.Map;
import java.util.regex.Matcher;
import java.util.regex.Pattern;

/** The sentences of the document's 'What it is', 'Terms' and promises, and which of them have a test. */
final class Sentences {
    static final int WHAT_IT_IS = -1, TERMS = 0;
    /** The summary and headings of the interface: they say nothing that a call could break. */
    private static final Pattern HEADING = Pattern.compile(
        "Lighter at every milestone: .*|Ahead of the calls .*(1 things, people, he|the road|2 foretold)");
    private static final Pattern PROMISE = Pattern.compile("Promise (\\d+): .*");

    private final Map<Integer, List<String>> sentences = new LinkedHashMap<>();
    private final List<String> untested = new ArrayList<>();

    Sentences(Path document) throws IOException {
        for (String part : Files.readString(document).split("(?m)^## ")) {
            int end = part.indexOf('\n');
            if (end < 0) {
                continue;
            }
            String title = part.substring(0, end).trim();
            Matcher promise = PROMISE.matcher(title);
            if (title.equals("What it is")) {
                add(WHAT_IT_IS, part.substring(end));
            } else if (title.equals("Terms")) {
                add(TERMS, part.substring(end));
            } else if (promise.matches()) {
                add(Integer.parseInt(promise.group(1)), part.substring(end));
            }
        }
    }

    private void add(int number, String text) {
        String flat = text.replaceAll("```\\w*", "").replaceAll("\\s+", " ").replaceAll("==== \\d ", "").trim();
        List<String> found = new ArrayList<>();
        for (String s : flat.replaceFirst("^`[^`]*\\)`: ", "").split("(?<=[^. ])\\.( |$)")) {
            if (!HEADING.matcher(s).matches()) {
                found.add(s);
                untested.add(name(number, s));
            }
        }
        sentences.put(number, found);
    }

    /** The one sentence that begins so has a test now: its name. */
    String tested(int number, String beginning) {
        List<String> found = new ArrayList<>();
        for (String s : sentences.getOrDefault(number, List.of())) {
            if (s.startsWith(beginning)) {
                found.add(s);
            }
        }
        if (found.size() != 1) {
            throw new IllegalStateException(found.size() + " sentences of " + number + " begin: " + beginning);
        }
        String name = name(number, found.get(0));
        untested.remove(name);
        return name;
    }

    List<String> untested() {
        return untested;
    }

    int promises() {
        return sentences.size() - 2;
    }

    private static String name(int number, String sentence) {
        String where = number == WHAT_IT_IS ? "What it is" : number == TERMS ? "Terms" : "Promise " + number;
        return where + ", '" + sentence + "'";
    }
}
