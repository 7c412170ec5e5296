import java.io.IOException;
import java.nio.charset.StandardCharsets;
import java.nio.file.Files;
import java.nio.file.Path;
import java.util.ArrayList;
import java.util.LinkedHashMap;
import java.util.List;
import java.util.Map;

/** The sentences of the document by their headings, the forms of its calls, and which sentences a test has named. */
final class Document {
    private static final Path PLACE = Path.of("..", "shared", "DOC.md");

    private final boolean isThere = Files.exists(PLACE);
    private final Map<String, List<String>> unnamed = new LinkedHashMap<>();
    private final Map<String, List<String>> all = new LinkedHashMap<>();
    private final Map<String, String> forms = new LinkedHashMap<>();

    /** Where the document is not there, the answers are tested all the same, but no sentence is looked up. */
    Document() {
        if (!isThere) {
            System.out.println("no " + PLACE + ": the sentences are not looked up");
            return;
        }
        try {
            read(Files.readAllLines(PLACE, StandardCharsets.UTF_8));
        } catch (IOException e) {
            throw new IllegalStateException("the document can't be read: " + PLACE, e);
        }
    }

    private void read(List<String> lines) {
        String heading = "";
        boolean isCode = false;
        for (String line : lines) {
            if (line.startsWith("```")) {
                isCode = !isCode;
            } else if (line.startsWith("## ")) {
                heading = line.substring(3).split(":")[0];
            } else if (!isCode) {
                add(heading, line);
            }
        }
    }

    private void add(String heading, String line) {
        String form = line.startsWith("`") ? line.replaceFirst("^`(.*?)`: .*", "$1") : "";
        if (!form.isEmpty()) {
            forms.put(heading, form);
        }
        for (String sentence : sentencesIn(form.isEmpty() ? line : line.substring(form.length() + 4))) {
            all.computeIfAbsent(heading, key -> new ArrayList<>()).add(sentence);
            if (isToBeNamed(heading, sentence)) {
                unnamed.computeIfAbsent(heading, key -> new ArrayList<>()).add(sentence);
            }
        }
    }

    static String[] sentencesIn(String line) {
        String text = line.startsWith("- ") ? line.substring(2) : line;
        return text.split("(?<=\\.)\\s+");
    }

    boolean isThere() {
        return isThere;
    }

    /** The headings of the promises, without their titles: "Promise 2". */
    Iterable<String> promises() {
        return forms.keySet();
    }

    /** A call as the promise writes it, with its arguments and exceptions. */
    String formOf(String promise) {
        return forms.getOrDefault(promise, "");
    }

    List<String> sentencesOf(String heading) {
        List<String> sentences = new ArrayList<>(all.getOrDefault(heading, List.of()));
        sentences.removeIf(String::isEmpty);
        return sentences;
    }

    /** Titles of a word or two, the overview of the terms and the lines about the interface have nothing to test. */
    private static boolean isToBeNamed(String heading, String sentence) {
        boolean isPart = heading.equals("Terms") || heading.startsWith("Promise ");
        boolean isTitle = sentence.isEmpty() || sentence.split(" ").length < 3;
        boolean isOverview = sentence.startsWith("Roads, zones, parks and works are laid on a board");
        return isPart && !isTitle && !isOverview && !sentence.startsWith("Ahead of the calls");
    }

    /** True if some sentence below the heading holds these words. */
    boolean name(String heading, String words) {
        boolean found = !isThere;
        for (String sentence : all.getOrDefault(heading, List.of())) {
            if (sentence.contains(words)) {
                unnamed.getOrDefault(heading, new ArrayList<>()).remove(sentence);
                found = true;
            }
        }
        return found;
    }

    List<String> leftOver() {
        List<String> texts = new ArrayList<>();
        for (Map.Entry<String, List<String>> entry : unnamed.entrySet()) {
            for (String sentence : entry.getValue()) {
                texts.add(entry.getKey() + ": " + sentence);
            }
        }
        return texts;
    }
}
